theorem d41_0 : decode prog_1_method_2_code 0 = .ok (.iload_n 1, 1) := by decide +kernel
theorem s41_0 {v0 v2 v3 : Value} {l1 : Int32} {st : List Value} {im : IM} {rm : RM}  : ev 41 0 [v0, .int l1, v2, v3] st im rm = ev 41 1 [v0, .int l1, v2, v3] (.int l1 :: st) (im) (rm) := ev_iload_n pm_m41 d41_0 rfl rfl
theorem d41_1 : decode prog_1_method_2_code 1 = .ok (.bipush 6, 2) := by decide +kernel
theorem s41_1 {v0 v1 v2 v3 : Value}  {st : List Value} {im : IM} {rm : RM}  : ev 41 1 [v0, v1, v2, v3] st im rm = ev 41 3 [v0, v1, v2, v3] (.int (nI 6) :: st) (im) (rm) := ev_bipush pm_m41 d41_1 rfl rfl
theorem d41_3 : decode prog_1_method_2_code 3 = .ok (.invokestatic 109, 3) := by decide +kernel
theorem s41_3 {v0 v1 v2 v3 : Value} {p1 : Int32} {p2 : Int32} {im : IM} {rm : RM}  : ev 41 3 [v0, v1, v2, v3] [.int p2, .int p1] im rm = (ev 75 0 [.int p1, .int p2] [] im rm).bind (fun r => ev 41 6 [v0, v1, v2, v3] (r.1.toList ++ []) r.2.1 r.2.2) := ev_callS pm_m41 d41_3 (by decide) l7_109 rfl pm_m75 rfl ⟨rfl, rfl⟩ rfl rfl
theorem d41_6 : decode prog_1_method_2_code 6 = .ok (.ifCond .eq 11, 3) := by decide +kernel
theorem s41_6 {v0 v1 v2 v3 : Value} {x : Int32} {st : List Value} {im : IM} {rm : RM} : ev 41 6 [v0, v1, v2, v3] (.int x :: st) im rm = if x = nI 0 then ev 41 17 [pm_u, pm_u, pm_u, pm_u] st im rm else ev 41 9 [v0, v1, v2, v3] st im rm := ev_if_eq (y := 0) pm_m41 d41_6 rfl rfl rfl
theorem d41_9 : decode prog_1_method_2_code 9 = .ok (.iload_n 3, 1) := by decide +kernel
theorem s41_9 {v0 v1 v2 : Value} {l1 : Int32} {st : List Value} {im : IM} {rm : RM}  : ev 41 9 [v0, v1, v2, .int l1] st im rm = ev 41 10 [v0, v1, v2, .int l1] (.int l1 :: st) (im) (rm) := ev_iload_n pm_m41 d41_9 rfl rfl
theorem d41_10 : decode prog_1_method_2_code 10 = .ok (.iconst 4, 1) := by decide +kernel
theorem s41_10 {v0 v1 v2 v3 : Value}  {st : List Value} {im : IM} {rm : RM}  : ev 41 10 [v0, v1, v2, v3] st im rm = ev 41 11 [v0, v1, v2, v3] (.int (nI 4) :: st) (im) (rm) := ev_iconst pm_m41 d41_10 rfl rfl
theorem d41_11 : decode prog_1_method_2_code 11 = .ok (.invokestatic 109, 3) := by decide +kernel
theorem s41_11 {v0 v1 v2 v3 : Value} {p1 : Int32} {p2 : Int32} {im : IM} {rm : RM}  : ev 41 11 [v0, v1, v2, v3] [.int p2, .int p1] im rm = (ev 75 0 [.int p1, .int p2] [] im rm).bind (fun r => ev 41 14 [v0, v1, v2, v3] (r.1.toList ++ []) r.2.1 r.2.2) := ev_callS pm_m41 d41_11 (by decide) l7_109 rfl pm_m75 rfl ⟨rfl, rfl⟩ rfl rfl
theorem d41_14 : decode prog_1_method_2_code 14 = .ok (.ifCond .ne 6, 3) := by decide +kernel
theorem s41_14 {v0 v1 v2 v3 : Value} {x : Int32} {st : List Value} {im : IM} {rm : RM} : ev 41 14 [v0, v1, v2, v3] (.int x :: st) im rm = if x = nI 0 then ev 41 17 [pm_u, pm_u, pm_u, pm_u] st im rm else ev 41 20 [v0, v1, v2, v3] st im rm := ev_if_ne (y := 0) pm_m41 d41_14 rfl rfl rfl
theorem d41_17 : decode prog_1_method_2_code 17 = .ok (.bipush (-2), 2) := by decide +kernel
theorem s41_17 {v0 v1 v2 v3 : Value}  {st : List Value} {im : IM} {rm : RM}  : ev 41 17 [v0, v1, v2, v3] st im rm = ev 41 19 [v0, v1, v2, v3] (.int ((-2 : Int32)) :: st) (im) (rm) := ev_bipush pm_m41 d41_17 rfl rfl
theorem d41_19 : decode prog_1_method_2_code 19 = .ok (.ireturn, 1) := by decide +kernel
theorem s41_19 {v0 v1 v2 v3 : Value} {x : Int32} {im : IM} {rm : RM} : ev 41 19 [v0, v1, v2, v3] [.int x] im rm = some (some (.int x), im, rm) := ev_ireturn pm_m41 d41_19 rfl
theorem d41_20 : decode prog_1_method_2_code 20 = .ok (.iload_n 2, 1) := by decide +kernel
theorem s41_20 {v0 v1 v3 : Value} {l1 : Int32} {st : List Value} {im : IM} {rm : RM}  : ev 41 20 [v0, v1, .int l1, v3] st im rm = ev 41 21 [v0, v1, .int l1, v3] (.int l1 :: st) (im) (rm) := ev_iload_n pm_m41 d41_20 rfl rfl
theorem d41_21 : decode prog_1_method_2_code 21 = .ok (.iconst 2, 1) := by decide +kernel
theorem s41_21 {v0 v1 v2 v3 : Value}  {st : List Value} {im : IM} {rm : RM}  : ev 41 21 [v0, v1, v2, v3] st im rm = ev 41 22 [v0, v1, v2, v3] (.int (nI 2) :: st) (im) (rm) := ev_iconst pm_m41 d41_21 rfl rfl
theorem d41_22 : decode prog_1_method_2_code 22 = .ok (.invokestatic 109, 3) := by decide +kernel
theorem s41_22 {v0 v1 v2 v3 : Value} {p1 : Int32} {p2 : Int32} {im : IM} {rm : RM}  : ev 41 22 [v0, v1, v2, v3] [.int p2, .int p1] im rm = (ev 75 0 [.int p1, .int p2] [] im rm).bind (fun r => ev 41 25 [v0, v1, v2, v3] (r.1.toList ++ []) r.2.1 r.2.2) := ev_callS pm_m41 d41_22 (by decide) l7_109 rfl pm_m75 rfl ⟨rfl, rfl⟩ rfl rfl
theorem d41_25 : decode prog_1_method_2_code 25 = .ok (.ifCond .ne 6, 3) := by decide +kernel
theorem s41_25 {v0 v1 v2 v3 : Value} {x : Int32} {st : List Value} {im : IM} {rm : RM} : ev 41 25 [v0, v1, v2, v3] (.int x :: st) im rm = if x = nI 0 then ev 41 28 [v0, v1, v2, v3] st im rm else ev 41 31 [v0, v1, v2, v3] st im rm := ev_if_ne (y := 0) pm_m41 d41_25 rfl rfl rfl
theorem d41_28 : decode prog_1_method_2_code 28 = .ok (.bipush (-3), 2) := by decide +kernel
theorem s41_28 {v0 v1 v2 v3 : Value}  {st : List Value} {im : IM} {rm : RM}  : ev 41 28 [v0, v1, v2, v3] st im rm = ev 41 30 [v0, v1, v2, v3] (.int ((-3 : Int32)) :: st) (im) (rm) := ev_bipush pm_m41 d41_28 rfl rfl
theorem d41_30 : decode prog_1_method_2_code 30 = .ok (.ireturn, 1) := by decide +kernel
theorem s41_30 {v0 v1 v2 v3 : Value} {x : Int32} {im : IM} {rm : RM} : ev 41 30 [v0, v1, v2, v3] [.int x] im rm = some (some (.int x), im, rm) := ev_ireturn pm_m41 d41_30 rfl
theorem d41_31 : decode prog_1_method_2_code 31 = .ok (.aload_n 0, 1) := by decide +kernel
theorem s41_31 {v1 v2 v3 : Value} {l1 : Nat} {st : List Value} {im : IM} {rm : RM}  : ev 41 31 [.ref l1, v1, v2, v3] st im rm = ev 41 32 [.ref l1, v1, v2, v3] (.ref l1 :: st) (im) (rm) := ev_aload_n pm_m41 d41_31 rfl rfl
theorem d41_32 : decode prog_1_method_2_code 32 = .ok (.getfield 11, 3) := by decide +kernel
theorem s41_32 {v0 v1 v2 v3 : Value} {a : Nat} {st : List Value} {im : IM} {rm : RM} (hk : kd a = 17) : ev 41 32 [v0, v1, v2, v3] (.ref a :: st) im rm = ev 41 35 [v0, v1, v2, v3] (pm_ro (rm a 0) :: st) (im) (rm) := ev_getR pm_m41 d41_32 f7_11 rfl hk rfl
theorem d41_35 : decode prog_1_method_2_code 35 = .ok (.iload_n 1, 1) := by decide +kernel
theorem s41_35 {v0 v2 v3 : Value} {l1 : Int32} {st : List Value} {im : IM} {rm : RM}  : ev 41 35 [v0, .int l1, v2, v3] st im rm = ev 41 36 [v0, .int l1, v2, v3] (.int l1 :: st) (im) (rm) := ev_iload_n pm_m41 d41_35 rfl rfl
theorem d41_36 : decode prog_1_method_2_code 36 = .ok (.aaload, 1) := by decide +kernel
theorem s41_36 {v0 v1 v2 v3 : Value} {a : Nat} {i : Int32} {st : List Value} {im : IM} {rm : RM} (hk : 2 ≤ kd a ∧ kd a ≤ 5) (hi : pm_in i (ln a) = true) : ev 41 36 [v0, v1, v2, v3] (.int i :: .ref a :: st) im rm = ev 41 37 [v0, v1, v2, v3] (pm_ro (rm a i.toNatClampNeg) :: st) (im) (rm) := ev_aald pm_m41 d41_36 hk hi rfl
theorem d41_37 : decode prog_1_method_2_code 37 = .ok (.iload_n 2, 1) := by decide +kernel
theorem s41_37 {v0 v1 v3 : Value} {l1 : Int32} {st : List Value} {im : IM} {rm : RM}  : ev 41 37 [v0, v1, .int l1, v3] st im rm = ev 41 38 [v0, v1, .int l1, v3] (.int l1 :: st) (im) (rm) := ev_iload_n pm_m41 d41_37 rfl rfl
theorem d41_38 : decode prog_1_method_2_code 38 = .ok (.iload_n 3, 1) := by decide +kernel
theorem s41_38 {v0 v1 v2 : Value} {l1 : Int32} {st : List Value} {im : IM} {rm : RM}  : ev 41 38 [v0, v1, v2, .int l1] st im rm = ev 41 39 [v0, v1, v2, .int l1] (.int l1 :: st) (im) (rm) := ev_iload_n pm_m41 d41_38 rfl rfl
theorem d41_39 : decode prog_1_method_2_code 39 = .ok (.invokevirtual 113, 3) := by decide +kernel
theorem s41_39 {v0 v1 v2 v3 : Value} {a : Nat} {p1 : Int32} {p2 : Int32} {im : IM} {rm : RM} (hk : kd a = 10) : ev 41 39 [v0, v1, v2, v3] [.int p2, .int p1, .ref a] im rm = (ev 2 0 [.ref a, .int p1, .int p2] [] im rm).bind (fun r => ev 41 42 [v0, v1, v2, v3] (r.1.toList ++ []) r.2.1 r.2.2) := ev_callV pm_m41 d41_39 l7_113 rfl pm_m2 (by decide) hk rfl ⟨rfl, rfl⟩ rfl rfl
theorem d41_42 : decode prog_1_method_2_code 42 = .ok (.iconst 1, 1) := by decide +kernel
theorem s41_42 {v0 v1 v2 v3 : Value}  {st : List Value} {im : IM} {rm : RM}  : ev 41 42 [v0, v1, v2, v3] st im rm = ev 41 43 [v0, v1, v2, v3] (.int (nI 1) :: st) (im) (rm) := ev_iconst pm_m41 d41_42 rfl rfl
theorem d41_43 : decode prog_1_method_2_code 43 = .ok (.ireturn, 1) := by decide +kernel
theorem s41_43 {v0 v1 v2 v3 : Value} {x : Int32} {im : IM} {rm : RM} : ev 41 43 [v0, v1, v2, v3] [.int x] im rm = some (some (.int x), im, rm) := ev_ireturn pm_m41 d41_43 rfl
theorem d42_0 : decode prog_1_method_3_code 0 = .ok (.iload_n 1, 1) := by decide +kernel
theorem s42_0 {v0 v2 v3 v4 v5 v6 v7 : Value} {l1 : Int32} {st : List Value} {im : IM} {rm : RM}  : ev 42 0 [v0, .int l1, v2, v3, v4, v5, v6, v7] st im rm = ev 42 1 [v0, .int l1, v2, v3, v4, v5, v6, v7] (.int l1 :: st) (im) (rm) := ev_iload_n pm_m42 d42_0 rfl rfl
theorem d42_1 : decode prog_1_method_3_code 1 = .ok (.bipush 6, 2) := by decide +kernel
theorem s42_1 {v0 v1 v2 v3 v4 v5 v6 v7 : Value}  {st : List Value} {im : IM} {rm : RM}  : ev 42 1 [v0, v1, v2, v3, v4, v5, v6, v7] st im rm = ev 42 3 [v0, v1, v2, v3, v4, v5, v6, v7] (.int (nI 6) :: st) (im) (rm) := ev_bipush pm_m42 d42_1 rfl rfl
theorem d42_3 : decode prog_1_method_3_code 3 = .ok (.invokestatic 109, 3) := by decide +kernel
theorem s42_3 {v0 v1 v2 v3 v4 v5 v6 v7 : Value} {p1 : Int32} {p2 : Int32} {im : IM} {rm : RM}  : ev 42 3 [v0, v1, v2, v3, v4, v5, v6, v7] [.int p2, .int p1] im rm = (ev 75 0 [.int p1, .int p2] [] im rm).bind (fun r => ev 42 6 [v0, v1, v2, v3, v4, v5, v6, v7] (r.1.toList ++ []) r.2.1 r.2.2) := ev_callS pm_m42 d42_3 (by decide) l7_109 rfl pm_m75 rfl ⟨rfl, rfl⟩ rfl rfl
theorem d42_6 : decode prog_1_method_3_code 6 = .ok (.ifCond .ne 6, 3) := by decide +kernel
theorem s42_6 {v0 v1 v2 v3 v4 v5 v6 v7 : Value} {x : Int32} {st : List Value} {im : IM} {rm : RM} : ev 42 6 [v0, v1, v2, v3, v4, v5, v6, v7] (.int x :: st) im rm = if x = nI 0 then ev 42 9 [v0, v1, v2, v3, v4, v5, v6, v7] st im rm else ev 42 12 [v0, v1, v2, v3, v4, v5, v6, pm_u] st im rm := ev_if_ne (y := 0) pm_m42 d42_6 rfl rfl rfl
theorem d42_9 : decode prog_1_method_3_code 9 = .ok (.bipush (-2), 2) := by decide +kernel
theorem s42_9 {v0 v1 v2 v3 v4 v5 v6 v7 : Value}  {st : List Value} {im : IM} {rm : RM}  : ev 42 9 [v0, v1, v2, v3, v4, v5, v6, v7] st im rm = ev 42 11 [v0, v1, v2, v3, v4, v5, v6, v7] (.int ((-2 : Int32)) :: st) (im) (rm) := ev_bipush pm_m42 d42_9 rfl rfl
theorem d42_11 : decode prog_1_method_3_code 11 = .ok (.ireturn, 1) := by decide +kernel
theorem s42_11 {v0 v1 v2 v3 v4 v5 v6 v7 : Value} {x : Int32} {im : IM} {rm : RM} : ev 42 11 [v0, v1, v2, v3, v4, v5, v6, v7] [.int x] im rm = some (some (.int x), im, rm) := ev_ireturn pm_m42 d42_11 rfl
theorem d42_12 : decode prog_1_method_3_code 12 = .ok (.iload_n 2, 1) := by decide +kernel
theorem s42_12 {v0 v1 v3 v4 v5 v6 v7 : Value} {l1 : Int32} {st : List Value} {im : IM} {rm : RM}  : ev 42 12 [v0, v1, .int l1, v3, v4, v5, v6, v7] st im rm = ev 42 13 [v0, v1, .int l1, v3, v4, v5, v6, v7] (.int l1 :: st) (im) (rm) := ev_iload_n pm_m42 d42_12 rfl rfl
theorem d42_13 : decode prog_1_method_3_code 13 = .ok (.sipush 159, 3) := by decide +kernel
theorem s42_13 {v0 v1 v2 v3 v4 v5 v6 v7 : Value}  {st : List Value} {im : IM} {rm : RM}  : ev 42 13 [v0, v1, v2, v3, v4, v5, v6, v7] st im rm = ev 42 16 [v0, v1, v2, v3, v4, v5, v6, v7] (.int (nI 159) :: st) (im) (rm) := ev_sipush pm_m42 d42_13 rfl rfl
theorem d42_16 : decode prog_1_method_3_code 16 = .ok (.invokestatic 117, 3) := by decide +kernel
theorem s42_16 {v0 v1 v2 v3 v4 v5 v6 v7 : Value} {p1 : Int32} {p2 : Int32} {im : IM} {rm : RM}  : ev 42 16 [v0, v1, v2, v3, v4, v5, v6, v7] [.int p2, .int p1] im rm = (ev 76 0 [.int p1, .int p2] [] im rm).bind (fun r => ev 42 19 [v0, v1, v2, v3, v4, v5, v6, v7] (r.1.toList ++ []) r.2.1 r.2.2) := ev_callS pm_m42 d42_16 (by decide) l7_117 rfl pm_m76 rfl ⟨rfl, rfl⟩ rfl rfl
theorem d42_19 : decode prog_1_method_3_code 19 = .ok (.ifCond .eq 46, 3) := by decide +kernel
theorem s42_19 {v0 v1 v2 v3 v4 v5 v6 v7 : Value} {x : Int32} {st : List Value} {im : IM} {rm : RM} : ev 42 19 [v0, v1, v2, v3, v4, v5, v6, v7] (.int x :: st) im rm = if x = nI 0 then ev 42 65 [pm_u, pm_u, pm_u, pm_u, pm_u, pm_u, pm_u, pm_u] st im rm else ev 42 22 [v0, v1, v2, v3, v4, v5, v6, v7] st im rm := ev_if_eq (y := 0) pm_m42 d42_19 rfl rfl rfl
theorem d42_22 : decode prog_1_method_3_code 22 = .ok (.iload_n 3, 1) := by decide +kernel
theorem s42_22 {v0 v1 v2 v4 v5 v6 v7 : Value} {l1 : Int32} {st : List Value} {im : IM} {rm : RM}  : ev 42 22 [v0, v1, v2, .int l1, v4, v5, v6, v7] st im rm = ev 42 23 [v0, v1, v2, .int l1, v4, v5, v6, v7] (.int l1 :: st) (im) (rm) := ev_iload_n pm_m42 d42_22 rfl rfl
theorem d42_23 : decode prog_1_method_3_code 23 = .ok (.bipush 99, 2) := by decide +kernel
theorem s42_23 {v0 v1 v2 v3 v4 v5 v6 v7 : Value}  {st : List Value} {im : IM} {rm : RM}  : ev 42 23 [v0, v1, v2, v3, v4, v5, v6, v7] st im rm = ev 42 25 [v0, v1, v2, v3, v4, v5, v6, v7] (.int (nI 99) :: st) (im) (rm) := ev_bipush pm_m42 d42_23 rfl rfl
theorem d42_25 : decode prog_1_method_3_code 25 = .ok (.invokestatic 117, 3) := by decide +kernel
theorem s42_25 {v0 v1 v2 v3 v4 v5 v6 v7 : Value} {p1 : Int32} {p2 : Int32} {im : IM} {rm : RM}  : ev 42 25 [v0, v1, v2, v3, v4, v5, v6, v7] [.int p2, .int p1] im rm = (ev 76 0 [.int p1, .int p2] [] im rm).bind (fun r => ev 42 28 [v0, v1, v2, v3, v4, v5, v6, v7] (r.1.toList ++ []) r.2.1 r.2.2) := ev_callS pm_m42 d42_25 (by decide) l7_117 rfl pm_m76 rfl ⟨rfl, rfl⟩ rfl rfl
theorem d42_28 : decode prog_1_method_3_code 28 = .ok (.ifCond .eq 37, 3) := by decide +kernel
theorem s42_28 {v0 v1 v2 v3 v4 v5 v6 v7 : Value} {x : Int32} {st : List Value} {im : IM} {rm : RM} : ev 42 28 [v0, v1, v2, v3, v4, v5, v6, v7] (.int x :: st) im rm = if x = nI 0 then ev 42 65 [pm_u, pm_u, pm_u, pm_u, pm_u, pm_u, pm_u, pm_u] st im rm else ev 42 31 [v0, v1, v2, v3, v4, v5, v6, v7] st im rm := ev_if_eq (y := 0) pm_m42 d42_28 rfl rfl rfl
theorem d42_31 : decode prog_1_method_3_code 31 = .ok (.iload 4, 2) := by decide +kernel
theorem s42_31 {v0 v1 v2 v3 v5 v6 v7 : Value} {l1 : Int32} {st : List Value} {im : IM} {rm : RM}  : ev 42 31 [v0, v1, v2, v3, .int l1, v5, v6, v7] st im rm = ev 42 33 [v0, v1, v2, v3, .int l1, v5, v6, v7] (.int l1 :: st) (im) (rm) := ev_iload pm_m42 d42_31 rfl rfl
theorem d42_33 : decode prog_1_method_3_code 33 = .ok (.bipush (-9), 2) := by decide +kernel
theorem s42_33 {v0 v1 v2 v3 v4 v5 v6 v7 : Value}  {st : List Value} {im : IM} {rm : RM}  : ev 42 33 [v0, v1, v2, v3, v4, v5, v6, v7] st im rm = ev 42 35 [v0, v1, v2, v3, v4, v5, v6, v7] (.int ((-9 : Int32)) :: st) (im) (rm) := ev_bipush pm_m42 d42_33 rfl rfl
theorem d42_35 : decode prog_1_method_3_code 35 = .ok (.if_icmp .lt 30, 3) := by decide +kernel
theorem s42_35 {v0 v1 v2 v3 v4 v5 v6 v7 : Value} {x : Int32} {y : Int32} {st : List Value} {im : IM} {rm : RM} : ev 42 35 [v0, v1, v2, v3, v4, v5, v6, v7] (.int y :: .int x :: st) im rm = if x < y then ev 42 65 [pm_u, pm_u, pm_u, pm_u, pm_u, pm_u, pm_u, pm_u] st im rm else ev 42 38 [v0, v1, v2, v3, v4, v5, v6, v7] st im rm := ev_icmp_lt pm_m42 d42_35 rfl rfl rfl
theorem d42_38 : decode prog_1_method_3_code 38 = .ok (.iload 4, 2) := by decide +kernel
theorem s42_38 {v0 v1 v2 v3 v5 v6 v7 : Value} {l1 : Int32} {st : List Value} {im : IM} {rm : RM}  : ev 42 38 [v0, v1, v2, v3, .int l1, v5, v6, v7] st im rm = ev 42 40 [v0, v1, v2, v3, .int l1, v5, v6, v7] (.int l1 :: st) (im) (rm) := ev_iload pm_m42 d42_38 rfl rfl
theorem d42_40 : decode prog_1_method_3_code 40 = .ok (.bipush 9, 2) := by decide +kernel
theorem s42_40 {v0 v1 v2 v3 v4 v5 v6 v7 : Value}  {st : List Value} {im : IM} {rm : RM}  : ev 42 40 [v0, v1, v2, v3, v4, v5, v6, v7] st im rm = ev 42 42 [v0, v1, v2, v3, v4, v5, v6, v7] (.int (nI 9) :: st) (im) (rm) := ev_bipush pm_m42 d42_40 rfl rfl
theorem d42_42 : decode prog_1_method_3_code 42 = .ok (.if_icmp .gt 23, 3) := by decide +kernel
theorem s42_42 {v0 v1 v2 v3 v4 v5 v6 v7 : Value} {x : Int32} {y : Int32} {st : List Value} {im : IM} {rm : RM} : ev 42 42 [v0, v1, v2, v3, v4, v5, v6, v7] (.int y :: .int x :: st) im rm = if y < x then ev 42 65 [pm_u, pm_u, pm_u, pm_u, pm_u, pm_u, pm_u, pm_u] st im rm else ev 42 45 [v0, v1, v2, v3, v4, v5, v6, v7] st im rm := ev_icmp_gt pm_m42 d42_42 rfl rfl rfl
theorem d42_45 : decode prog_1_method_3_code 45 = .ok (.iload 5, 2) := by decide +kernel
theorem s42_45 {v0 v1 v2 v3 v4 v6 v7 : Value} {l1 : Int32} {st : List Value} {im : IM} {rm : RM}  : ev 42 45 [v0, v1, v2, v3, v4, .int l1, v6, v7] st im rm = ev 42 47 [v0, v1, v2, v3, v4, .int l1, v6, v7] (.int l1 :: st) (im) (rm) := ev_iload pm_m42 d42_45 rfl rfl
theorem d42_47 : decode prog_1_method_3_code 47 = .ok (.bipush 30, 2) := by decide +kernel
theorem s42_47 {v0 v1 v2 v3 v4 v5 v6 v7 : Value}  {st : List Value} {im : IM} {rm : RM}  : ev 42 47 [v0, v1, v2, v3, v4, v5, v6, v7] st im rm = ev 42 49 [v0, v1, v2, v3, v4, v5, v6, v7] (.int (nI 30) :: st) (im) (rm) := ev_bipush pm_m42 d42_47 rfl rfl
theorem d42_49 : decode prog_1_method_3_code 49 = .ok (.invokestatic 117, 3) := by decide +kernel
theorem s42_49 {v0 v1 v2 v3 v4 v5 v6 v7 : Value} {p1 : Int32} {p2 : Int32} {im : IM} {rm : RM}  : ev 42 49 [v0, v1, v2, v3, v4, v5, v6, v7] [.int p2, .int p1] im rm = (ev 76 0 [.int p1, .int p2] [] im rm).bind (fun r => ev 42 52 [v0, v1, v2, v3, v4, v5, v6, v7] (r.1.toList ++ []) r.2.1 r.2.2) := ev_callS pm_m42 d42_49 (by decide) l7_117 rfl pm_m76 rfl ⟨rfl, rfl⟩ rfl rfl
theorem d42_52 : decode prog_1_method_3_code 52 = .ok (.ifCond .eq 13, 3) := by decide +kernel
theorem s42_52 {v0 v1 v2 v3 v4 v5 v6 v7 : Value} {x : Int32} {st : List Value} {im : IM} {rm : RM} : ev 42 52 [v0, v1, v2, v3, v4, v5, v6, v7] (.int x :: st) im rm = if x = nI 0 then ev 42 65 [pm_u, pm_u, pm_u, pm_u, pm_u, pm_u, pm_u, pm_u] st im rm else ev 42 55 [v0, v1, v2, v3, v4, v5, v6, v7] st im rm := ev_if_eq (y := 0) pm_m42 d42_52 rfl rfl rfl
theorem d42_55 : decode prog_1_method_3_code 55 = .ok (.iload 6, 2) := by decide +kernel
theorem s42_55 {v0 v1 v2 v3 v4 v5 v7 : Value} {l1 : Int32} {st : List Value} {im : IM} {rm : RM}  : ev 42 55 [v0, v1, v2, v3, v4, v5, .int l1, v7] st im rm = ev 42 57 [v0, v1, v2, v3, v4, v5, .int l1, v7] (.int l1 :: st) (im) (rm) := ev_iload pm_m42 d42_55 rfl rfl
theorem d42_57 : decode prog_1_method_3_code 57 = .ok (.bipush 60, 2) := by decide +kernel
theorem s42_57 {v0 v1 v2 v3 v4 v5 v6 v7 : Value}  {st : List Value} {im : IM} {rm : RM}  : ev 42 57 [v0, v1, v2, v3, v4, v5, v6, v7] st im rm = ev 42 59 [v0, v1, v2, v3, v4, v5, v6, v7] (.int (nI 60) :: st) (im) (rm) := ev_bipush pm_m42 d42_57 rfl rfl
theorem d42_59 : decode prog_1_method_3_code 59 = .ok (.invokestatic 117, 3) := by decide +kernel
theorem s42_59 {v0 v1 v2 v3 v4 v5 v6 v7 : Value} {p1 : Int32} {p2 : Int32} {im : IM} {rm : RM}  : ev 42 59 [v0, v1, v2, v3, v4, v5, v6, v7] [.int p2, .int p1] im rm = (ev 76 0 [.int p1, .int p2] [] im rm).bind (fun r => ev 42 62 [v0, v1, v2, v3, v4, v5, v6, v7] (r.1.toList ++ []) r.2.1 r.2.2) := ev_callS pm_m42 d42_59 (by decide) l7_117 rfl pm_m76 rfl ⟨rfl, rfl⟩ rfl rfl
theorem d42_62 : decode prog_1_method_3_code 62 = .ok (.ifCond .ne 6, 3) := by decide +kernel
theorem s42_62 {v0 v1 v2 v3 v4 v5 v6 v7 : Value} {x : Int32} {st : List Value} {im : IM} {rm : RM} : ev 42 62 [v0, v1, v2, v3, v4, v5, v6, v7] (.int x :: st) im rm = if x = nI 0 then ev 42 65 [pm_u, pm_u, pm_u, pm_u, pm_u, pm_u, pm_u, pm_u] st im rm else ev 42 68 [v0, v1, v2, v3, v4, v5, v6, pm_u] st im rm := ev_if_ne (y := 0) pm_m42 d42_62 rfl rfl rfl
theorem d42_65 : decode prog_1_method_3_code 65 = .ok (.bipush (-3), 2) := by decide +kernel
theorem s42_65 {v0 v1 v2 v3 v4 v5 v6 v7 : Value}  {st : List Value} {im : IM} {rm : RM}  : ev 42 65 [v0, v1, v2, v3, v4, v5, v6, v7] st im rm = ev 42 67 [v0, v1, v2, v3, v4, v5, v6, v7] (.int ((-3 : Int32)) :: st) (im) (rm) := ev_bipush pm_m42 d42_65 rfl rfl
theorem d42_67 : decode prog_1_method_3_code 67 = .ok (.ireturn, 1) := by decide +kernel
theorem s42_67 {v0 v1 v2 v3 v4 v5 v6 v7 : Value} {x : Int32} {im : IM} {rm : RM} : ev 42 67 [v0, v1, v2, v3, v4, v5, v6, v7] [.int x] im rm = some (some (.int x), im, rm) := ev_ireturn pm_m42 d42_67 rfl
theorem d42_68 : decode prog_1_method_3_code 68 = .ok (.aload_n 0, 1) := by decide +kernel
theorem s42_68 {v1 v2 v3 v4 v5 v6 v7 : Value} {l1 : Nat} {st : List Value} {im : IM} {rm : RM}  : ev 42 68 [.ref l1, v1, v2, v3, v4, v5, v6, v7] st im rm = ev 42 69 [.ref l1, v1, v2, v3, v4, v5, v6, v7] (.ref l1 :: st) (im) (rm) := ev_aload_n pm_m42 d42_68 rfl rfl
theorem d42_69 : decode prog_1_method_3_code 69 = .ok (.getfield 11, 3) := by decide +kernel
theorem s42_69 {v0 v1 v2 v3 v4 v5 v6 v7 : Value} {a : Nat} {st : List Value} {im : IM} {rm : RM} (hk : kd a = 17) : ev 42 69 [v0, v1, v2, v3, v4, v5, v6, v7] (.ref a :: st) im rm = ev 42 72 [v0, v1, v2, v3, v4, v5, v6, v7] (pm_ro (rm a 0) :: st) (im) (rm) := ev_getR pm_m42 d42_69 f7_11 rfl hk rfl
theorem d42_72 : decode prog_1_method_3_code 72 = .ok (.iload_n 1, 1) := by decide +kernel
theorem s42_72 {v0 v2 v3 v4 v5 v6 v7 : Value} {l1 : Int32} {st : List Value} {im : IM} {rm : RM}  : ev 42 72 [v0, .int l1, v2, v3, v4, v5, v6, v7] st im rm = ev 42 73 [v0, .int l1, v2, v3, v4, v5, v6, v7] (.int l1 :: st) (im) (rm) := ev_iload_n pm_m42 d42_72 rfl rfl
theorem d42_73 : decode prog_1_method_3_code 73 = .ok (.aaload, 1) := by decide +kernel
theorem s42_73 {v0 v1 v2 v3 v4 v5 v6 v7 : Value} {a : Nat} {i : Int32} {st : List Value} {im : IM} {rm : RM} (hk : 2 ≤ kd a ∧ kd a ≤ 5) (hi : pm_in i (ln a) = true) : ev 42 73 [v0, v1, v2, v3, v4, v5, v6, v7] (.int i :: .ref a :: st) im rm = ev 42 74 [v0, v1, v2, v3, v4, v5, v6, v7] (pm_ro (rm a i.toNatClampNeg) :: st) (im) (rm) := ev_aald pm_m42 d42_73 hk hi rfl
theorem d42_74 : decode prog_1_method_3_code 74 = .ok (.astore 7, 2) := by decide +kernel
theorem s42_74 {v0 v1 v2 v3 v4 v5 v7 : Value} {l1 : Int32} {x2 : Nat} {st : List Value} {im : IM} {rm : RM}  : ev 42 74 [v0, v1, v2, v3, v4, v5, .int l1, v7] (.ref x2 :: st) im rm = ev 42 76 [v0, v1, v2, v3, v4, v5, .int l1, .ref x2] st (im) (rm) := ev_astore pm_m42 d42_74 (Nat.le_of_ble_eq_true rfl) rfl rfl
theorem d42_76 : decode prog_1_method_3_code 76 = .ok (.aload 7, 2) := by decide +kernel
theorem s42_76 {v0 v1 v2 v3 v4 v5 v6 : Value} {l1 : Nat} {st : List Value} {im : IM} {rm : RM}  : ev 42 76 [v0, v1, v2, v3, v4, v5, v6, .ref l1] st im rm = ev 42 78 [v0, v1, v2, v3, v4, v5, v6, .ref l1] (.ref l1 :: st) (im) (rm) := ev_aload pm_m42 d42_76 rfl rfl
theorem d42_78 : decode prog_1_method_3_code 78 = .ok (.getfield 120, 3) := by decide +kernel
theorem s42_78 {v0 v1 v2 v3 v4 v5 v6 v7 : Value} {a : Nat} {st : List Value} {im : IM} {rm : RM} (hk : kd a = 10) : ev 42 78 [v0, v1, v2, v3, v4, v5, v6, v7] (.ref a :: st) im rm = ev 42 81 [v0, v1, v2, v3, v4, v5, v6, v7] (.int (im a 2) :: st) (im) (rm) := ev_getI pm_m42 d42_78 f7_120 rfl hk rfl
theorem d42_81 : decode prog_1_method_3_code 81 = .ok (.bipush 40, 2) := by decide +kernel
theorem s42_81 {v0 v1 v2 v3 v4 v5 v6 v7 : Value}  {st : List Value} {im : IM} {rm : RM}  : ev 42 81 [v0, v1, v2, v3, v4, v5, v6, v7] st im rm = ev 42 83 [v0, v1, v2, v3, v4, v5, v6, v7] (.int (nI 40) :: st) (im) (rm) := ev_bipush pm_m42 d42_81 rfl rfl
theorem d42_83 : decode prog_1_method_3_code 83 = .ok (.if_icmp .lt 6, 3) := by decide +kernel
theorem s42_83 {v0 v1 v2 v3 v4 v5 v6 v7 : Value} {x : Int32} {y : Int32} {st : List Value} {im : IM} {rm : RM} : ev 42 83 [v0, v1, v2, v3, v4, v5, v6, v7] (.int y :: .int x :: st) im rm = if x < y then ev 42 89 [v0, pm_u, v2, v3, v4, v5, v6, v7] st im rm else ev 42 86 [v0, v1, v2, v3, v4, v5, v6, v7] st im rm := ev_icmp_lt pm_m42 d42_83 rfl rfl rfl
theorem d42_86 : decode prog_1_method_3_code 86 = .ok (.bipush (-5), 2) := by decide +kernel
theorem s42_86 {v0 v1 v2 v3 v4 v5 v6 v7 : Value}  {st : List Value} {im : IM} {rm : RM}  : ev 42 86 [v0, v1, v2, v3, v4, v5, v6, v7] st im rm = ev 42 88 [v0, v1, v2, v3, v4, v5, v6, v7] (.int ((-5 : Int32)) :: st) (im) (rm) := ev_bipush pm_m42 d42_86 rfl rfl
theorem d42_88 : decode prog_1_method_3_code 88 = .ok (.ireturn, 1) := by decide +kernel
theorem s42_88 {v0 v1 v2 v3 v4 v5 v6 v7 : Value} {x : Int32} {im : IM} {rm : RM} : ev 42 88 [v0, v1, v2, v3, v4, v5, v6, v7] [.int x] im rm = some (some (.int x), im, rm) := ev_ireturn pm_m42 d42_88 rfl
theorem d42_89 : decode prog_1_method_3_code 89 = .ok (.aload 7, 2) := by decide +kernel
theorem s42_89 {v0 v1 v2 v3 v4 v5 v6 : Value} {l1 : Nat} {st : List Value} {im : IM} {rm : RM}  : ev 42 89 [v0, v1, v2, v3, v4, v5, v6, .ref l1] st im rm = ev 42 91 [v0, v1, v2, v3, v4, v5, v6, .ref l1] (.ref l1 :: st) (im) (rm) := ev_aload pm_m42 d42_89 rfl rfl
theorem d42_91 : decode prog_1_method_3_code 91 = .ok (.iload_n 2, 1) := by decide +kernel
theorem s42_91 {v0 v1 v3 v4 v5 v6 v7 : Value} {l1 : Int32} {st : List Value} {im : IM} {rm : RM}  : ev 42 91 [v0, v1, .int l1, v3, v4, v5, v6, v7] st im rm = ev 42 92 [v0, v1, .int l1, v3, v4, v5, v6, v7] (.int l1 :: st) (im) (rm) := ev_iload_n pm_m42 d42_91 rfl rfl
theorem d42_92 : decode prog_1_method_3_code 92 = .ok (.iload_n 3, 1) := by decide +kernel
theorem s42_92 {v0 v1 v2 v4 v5 v6 v7 : Value} {l1 : Int32} {st : List Value} {im : IM} {rm : RM}  : ev 42 92 [v0, v1, v2, .int l1, v4, v5, v6, v7] st im rm = ev 42 93 [v0, v1, v2, .int l1, v4, v5, v6, v7] (.int l1 :: st) (im) (rm) := ev_iload_n pm_m42 d42_92 rfl rfl
theorem d42_93 : decode prog_1_method_3_code 93 = .ok (.iload 4, 2) := by decide +kernel
theorem s42_93 {v0 v1 v2 v3 v5 v6 v7 : Value} {l1 : Int32} {st : List Value} {im : IM} {rm : RM}  : ev 42 93 [v0, v1, v2, v3, .int l1, v5, v6, v7] st im rm = ev 42 95 [v0, v1, v2, v3, .int l1, v5, v6, v7] (.int l1 :: st) (im) (rm) := ev_iload pm_m42 d42_93 rfl rfl
theorem d42_95 : decode prog_1_method_3_code 95 = .ok (.iload 5, 2) := by decide +kernel
theorem s42_95 {v0 v1 v2 v3 v4 v6 v7 : Value} {l1 : Int32} {st : List Value} {im : IM} {rm : RM}  : ev 42 95 [v0, v1, v2, v3, v4, .int l1, v6, v7] st im rm = ev 42 97 [v0, v1, v2, v3, v4, .int l1, v6, v7] (.int l1 :: st) (im) (rm) := ev_iload pm_m42 d42_95 rfl rfl
theorem d42_97 : decode prog_1_method_3_code 97 = .ok (.iload 6, 2) := by decide +kernel
theorem s42_97 {v0 v1 v2 v3 v4 v5 v7 : Value} {l1 : Int32} {st : List Value} {im : IM} {rm : RM}  : ev 42 97 [v0, v1, v2, v3, v4, v5, .int l1, v7] st im rm = ev 42 99 [v0, v1, v2, v3, v4, v5, .int l1, v7] (.int l1 :: st) (im) (rm) := ev_iload pm_m42 d42_97 rfl rfl
theorem d42_99 : decode prog_1_method_3_code 99 = .ok (.invokevirtual 123, 3) := by decide +kernel
theorem s42_99 {v0 v1 v2 v3 v4 v5 v6 v7 : Value} {a : Nat} {p1 : Int32} {p2 : Int32} {p3 : Int32} {p4 : Int32} {p5 : Int32} {im : IM} {rm : RM} (hk : kd a = 10) : ev 42 99 [v0, v1, v2, v3, v4, v5, v6, v7] [.int p5, .int p4, .int p3, .int p2, .int p1, .ref a] im rm = (ev 3 0 [.ref a, .int p1, .int p2, .int p3, .int p4, .int p5] [] im rm).bind (fun r => ev 42 102 [v0, v1, v2, v3, v4, v5, v6, v7] (r.1.toList ++ []) r.2.1 r.2.2) := ev_callV pm_m42 d42_99 l7_123 rfl pm_m3 (by decide) hk rfl ⟨rfl, rfl⟩ rfl rfl
theorem d42_102 : decode prog_1_method_3_code 102 = .ok (.aload 7, 2) := by decide +kernel
theorem s42_102 {v0 v1 v2 v3 v4 v5 v6 : Value} {l1 : Nat} {st : List Value} {im : IM} {rm : RM}  : ev 42 102 [v0, v1, v2, v3, v4, v5, v6, .ref l1] st im rm = ev 42 104 [v0, v1, v2, v3, v4, v5, v6, .ref l1] (.ref l1 :: st) (im) (rm) := ev_aload pm_m42 d42_102 rfl rfl
theorem d42_104 : decode prog_1_method_3_code 104 = .ok (.aload_n 0, 1) := by decide +kernel
theorem s42_104 {v1 v2 v3 v4 v5 v6 v7 : Value} {l1 : Nat} {st : List Value} {im : IM} {rm : RM}  : ev 42 104 [.ref l1, v1, v2, v3, v4, v5, v6, v7] st im rm = ev 42 105 [.ref l1, v1, v2, v3, v4, v5, v6, v7] (.ref l1 :: st) (im) (rm) := ev_aload_n pm_m42 d42_104 rfl rfl
theorem d42_105 : decode prog_1_method_3_code 105 = .ok (.getfield 43, 3) := by decide +kernel
theorem s42_105 {v0 v1 v2 v3 v4 v5 v6 v7 : Value} {a : Nat} {st : List Value} {im : IM} {rm : RM} (hk : kd a = 17) : ev 42 105 [v0, v1, v2, v3, v4, v5, v6, v7] (.ref a :: st) im rm = ev 42 108 [v0, v1, v2, v3, v4, v5, v6, v7] (pm_ro (rm a 5) :: st) (im) (rm) := ev_getR pm_m42 d42_105 f7_43 rfl hk rfl
theorem d42_108 : decode prog_1_method_3_code 108 = .ok (.iconst 1, 1) := by decide +kernel
theorem s42_108 {v0 v1 v2 v3 v4 v5 v6 v7 : Value}  {st : List Value} {im : IM} {rm : RM}  : ev 42 108 [v0, v1, v2, v3, v4, v5, v6, v7] st im rm = ev 42 109 [v0, v1, v2, v3, v4, v5, v6, v7] (.int (nI 1) :: st) (im) (rm) := ev_iconst pm_m42 d42_108 rfl rfl
theorem d42_109 : decode prog_1_method_3_code 109 = .ok (.iaload, 1) := by decide +kernel
theorem s42_109 {v0 v1 v2 v3 v4 v5 v6 v7 : Value} {a : Nat} {i : Int32} {st : List Value} {im : IM} {rm : RM} (hk : kd a = 0) (hi : pm_in i (ln a) = true) : ev 42 109 [v0, v1, v2, v3, v4, v5, v6, v7] (.int i :: .ref a :: st) im rm = ev 42 110 [v0, v1, v2, v3, v4, v5, v6, v7] (.int (im a i.toNatClampNeg) :: st) (im) (rm) := ev_iald pm_m42 d42_109 hk hi rfl
theorem d42_110 : decode prog_1_method_3_code 110 = .ok (.invokevirtual 127, 3) := by decide +kernel
theorem s42_110 {v0 v1 v2 v3 v4 v5 v6 v7 : Value} {a : Nat} {p1 : Int32} {im : IM} {rm : RM} (hk : kd a = 10) : ev 42 110 [v0, v1, v2, v3, v4, v5, v6, v7] [.int p1, .ref a] im rm = (ev 4 0 [.ref a, .int p1, pm_u, pm_u] [] im rm).bind (fun r => ev 42 113 [v0, v1, v2, v3, v4, v5, v6, v7] (r.1.toList ++ []) r.2.1 r.2.2) := ev_callV pm_m42 d42_110 l7_127 rfl pm_m4 (by decide) hk rfl ⟨rfl, rfl⟩ rfl rfl
theorem d42_113 : decode prog_1_method_3_code 113 = .ok (.aload 7, 2) := by decide +kernel
theorem s42_113 {v0 v1 v2 v3 v4 v5 v6 : Value} {l1 : Nat} {st : List Value} {im : IM} {rm : RM}  : ev 42 113 [v0, v1, v2, v3, v4, v5, v6, .ref l1] st im rm = ev 42 115 [v0, v1, v2, v3, v4, v5, v6, .ref l1] (.ref l1 :: st) (im) (rm) := ev_aload pm_m42 d42_113 rfl rfl
theorem d42_115 : decode prog_1_method_3_code 115 = .ok (.getfield 120, 3) := by decide +kernel
theorem s42_115 {v0 v1 v2 v3 v4 v5 v6 v7 : Value} {a : Nat} {st : List Value} {im : IM} {rm : RM} (hk : kd a = 10) : ev 42 115 [v0, v1, v2, v3, v4, v5, v6, v7] (.ref a :: st) im rm = ev 42 118 [v0, v1, v2, v3, v4, v5, v6, v7] (.int (im a 2) :: st) (im) (rm) := ev_getI pm_m42 d42_115 f7_120 rfl hk rfl
theorem d42_118 : decode prog_1_method_3_code 118 = .ok (.ireturn, 1) := by decide +kernel
theorem s42_118 {v0 v1 v2 v3 v4 v5 v6 v7 : Value} {x : Int32} {im : IM} {rm : RM} : ev 42 118 [v0, v1, v2, v3, v4, v5, v6, v7] [.int x] im rm = some (some (.int x), im, rm) := ev_ireturn pm_m42 d42_118 rfl
theorem d43_0 : decode prog_1_method_4_code 0 = .ok (.iload_n 1, 1) := by decide +kernel
theorem s43_0 {v0 v2 v3 : Value} {l1 : Int32} {st : List Value} {im : IM} {rm : RM}  : ev 43 0 [v0, .int l1, v2, v3] st im rm = ev 43 1 [v0, .int l1, v2, v3] (.int l1 :: st) (im) (rm) := ev_iload_n pm_m43 d43_0 rfl rfl
theorem d43_1 : decode prog_1_method_4_code 1 = .ok (.iconst 4, 1) := by decide +kernel
theorem s43_1 {v0 v1 v2 v3 : Value}  {st : List Value} {im : IM} {rm : RM}  : ev 43 1 [v0, v1, v2, v3] st im rm = ev 43 2 [v0, v1, v2, v3] (.int (nI 4) :: st) (im) (rm) := ev_iconst pm_m43 d43_1 rfl rfl
theorem d43_2 : decode prog_1_method_4_code 2 = .ok (.invokestatic 109, 3) := by decide +kernel
theorem s43_2 {v0 v1 v2 v3 : Value} {p1 : Int32} {p2 : Int32} {im : IM} {rm : RM}  : ev 43 2 [v0, v1, v2, v3] [.int p2, .int p1] im rm = (ev 75 0 [.int p1, .int p2] [] im rm).bind (fun r => ev 43 5 [v0, v1, v2, v3] (r.1.toList ++ []) r.2.1 r.2.2) := ev_callS pm_m43 d43_2 (by decide) l7_109 rfl pm_m75 rfl ⟨rfl, rfl⟩ rfl rfl
theorem d43_5 : decode prog_1_method_4_code 5 = .ok (.ifCond .ne 6, 3) := by decide +kernel
theorem s43_5 {v0 v1 v2 v3 : Value} {x : Int32} {st : List Value} {im : IM} {rm : RM} : ev 43 5 [v0, v1, v2, v3] (.int x :: st) im rm = if x = nI 0 then ev 43 8 [v0, v1, v2, v3] st im rm else ev 43 11 [v0, v1, v2, v3] st im rm := ev_if_ne (y := 0) pm_m43 d43_5 rfl rfl rfl
theorem d43_8 : decode prog_1_method_4_code 8 = .ok (.bipush (-2), 2) := by decide +kernel
theorem s43_8 {v0 v1 v2 v3 : Value}  {st : List Value} {im : IM} {rm : RM}  : ev 43 8 [v0, v1, v2, v3] st im rm = ev 43 10 [v0, v1, v2, v3] (.int ((-2 : Int32)) :: st) (im) (rm) := ev_bipush pm_m43 d43_8 rfl rfl
theorem d43_10 : decode prog_1_method_4_code 10 = .ok (.ireturn, 1) := by decide +kernel
theorem s43_10 {v0 v1 v2 v3 : Value} {x : Int32} {im : IM} {rm : RM} : ev 43 10 [v0, v1, v2, v3] [.int x] im rm = some (some (.int x), im, rm) := ev_ireturn pm_m43 d43_10 rfl
theorem d43_11 : decode prog_1_method_4_code 11 = .ok (.iload_n 2, 1) := by decide +kernel
theorem s43_11 {v0 v1 v3 : Value} {l1 : Int32} {st : List Value} {im : IM} {rm : RM}  : ev 43 11 [v0, v1, .int l1, v3] st im rm = ev 43 12 [v0, v1, .int l1, v3] (.int l1 :: st) (im) (rm) := ev_iload_n pm_m43 d43_11 rfl rfl
theorem d43_12 : decode prog_1_method_4_code 12 = .ok (.iconst 4, 1) := by decide +kernel
theorem s43_12 {v0 v1 v2 v3 : Value}  {st : List Value} {im : IM} {rm : RM}  : ev 43 12 [v0, v1, v2, v3] st im rm = ev 43 13 [v0, v1, v2, v3] (.int (nI 4) :: st) (im) (rm) := ev_iconst pm_m43 d43_12 rfl rfl
theorem d43_13 : decode prog_1_method_4_code 13 = .ok (.invokestatic 109, 3) := by decide +kernel
theorem s43_13 {v0 v1 v2 v3 : Value} {p1 : Int32} {p2 : Int32} {im : IM} {rm : RM}  : ev 43 13 [v0, v1, v2, v3] [.int p2, .int p1] im rm = (ev 75 0 [.int p1, .int p2] [] im rm).bind (fun r => ev 43 16 [v0, v1, v2, v3] (r.1.toList ++ []) r.2.1 r.2.2) := ev_callS pm_m43 d43_13 (by decide) l7_109 rfl pm_m75 rfl ⟨rfl, rfl⟩ rfl rfl
theorem d43_16 : decode prog_1_method_4_code 16 = .ok (.ifCond .eq 12, 3) := by decide +kernel
theorem s43_16 {v0 v1 v2 v3 : Value} {x : Int32} {st : List Value} {im : IM} {rm : RM} : ev 43 16 [v0, v1, v2, v3] (.int x :: st) im rm = if x = nI 0 then ev 43 28 [pm_u, pm_u, pm_u, pm_u] st im rm else ev 43 19 [v0, v1, v2, v3] st im rm := ev_if_eq (y := 0) pm_m43 d43_16 rfl rfl rfl
theorem d43_19 : decode prog_1_method_4_code 19 = .ok (.iload_n 3, 1) := by decide +kernel
theorem s43_19 {v0 v1 v2 : Value} {l1 : Int32} {st : List Value} {im : IM} {rm : RM}  : ev 43 19 [v0, v1, v2, .int l1] st im rm = ev 43 20 [v0, v1, v2, .int l1] (.int l1 :: st) (im) (rm) := ev_iload_n pm_m43 d43_19 rfl rfl
theorem d43_20 : decode prog_1_method_4_code 20 = .ok (.bipush 60, 2) := by decide +kernel
theorem s43_20 {v0 v1 v2 v3 : Value}  {st : List Value} {im : IM} {rm : RM}  : ev 43 20 [v0, v1, v2, v3] st im rm = ev 43 22 [v0, v1, v2, v3] (.int (nI 60) :: st) (im) (rm) := ev_bipush pm_m43 d43_20 rfl rfl
theorem d43_22 : decode prog_1_method_4_code 22 = .ok (.invokestatic 117, 3) := by decide +kernel
theorem s43_22 {v0 v1 v2 v3 : Value} {p1 : Int32} {p2 : Int32} {im : IM} {rm : RM}  : ev 43 22 [v0, v1, v2, v3] [.int p2, .int p1] im rm = (ev 76 0 [.int p1, .int p2] [] im rm).bind (fun r => ev 43 25 [v0, v1, v2, v3] (r.1.toList ++ []) r.2.1 r.2.2) := ev_callS pm_m43 d43_22 (by decide) l7_117 rfl pm_m76 rfl ⟨rfl, rfl⟩ rfl rfl
theorem d43_25 : decode prog_1_method_4_code 25 = .ok (.ifCond .ne 6, 3) := by decide +kernel
theorem s43_25 {v0 v1 v2 v3 : Value} {x : Int32} {st : List Value} {im : IM} {rm : RM} : ev 43 25 [v0, v1, v2, v3] (.int x :: st) im rm = if x = nI 0 then ev 43 28 [pm_u, pm_u, pm_u, pm_u] st im rm else ev 43 31 [v0, v1, v2, v3] st im rm := ev_if_ne (y := 0) pm_m43 d43_25 rfl rfl rfl
theorem d43_28 : decode prog_1_method_4_code 28 = .ok (.bipush (-3), 2) := by decide +kernel
theorem s43_28 {v0 v1 v2 v3 : Value}  {st : List Value} {im : IM} {rm : RM}  : ev 43 28 [v0, v1, v2, v3] st im rm = ev 43 30 [v0, v1, v2, v3] (.int ((-3 : Int32)) :: st) (im) (rm) := ev_bipush pm_m43 d43_28 rfl rfl
theorem d43_30 : decode prog_1_method_4_code 30 = .ok (.ireturn, 1) := by decide +kernel
theorem s43_30 {v0 v1 v2 v3 : Value} {x : Int32} {im : IM} {rm : RM} : ev 43 30 [v0, v1, v2, v3] [.int x] im rm = some (some (.int x), im, rm) := ev_ireturn pm_m43 d43_30 rfl
theorem d43_31 : decode prog_1_method_4_code 31 = .ok (.aload_n 0, 1) := by decide +kernel
theorem s43_31 {v1 v2 v3 : Value} {l1 : Nat} {st : List Value} {im : IM} {rm : RM}  : ev 43 31 [.ref l1, v1, v2, v3] st im rm = ev 43 32 [.ref l1, v1, v2, v3] (.ref l1 :: st) (im) (rm) := ev_aload_n pm_m43 d43_31 rfl rfl
theorem d43_32 : decode prog_1_method_4_code 32 = .ok (.getfield 36, 3) := by decide +kernel
theorem s43_32 {v0 v1 v2 v3 : Value} {a : Nat} {st : List Value} {im : IM} {rm : RM} (hk : kd a = 17) : ev 43 32 [v0, v1, v2, v3] (.ref a :: st) im rm = ev 43 35 [v0, v1, v2, v3] (pm_ro (rm a 4) :: st) (im) (rm) := ev_getR pm_m43 d43_32 f7_36 rfl hk rfl
theorem d43_35 : decode prog_1_method_4_code 35 = .ok (.iload_n 1, 1) := by decide +kernel
theorem s43_35 {v0 v2 v3 : Value} {l1 : Int32} {st : List Value} {im : IM} {rm : RM}  : ev 43 35 [v0, .int l1, v2, v3] st im rm = ev 43 36 [v0, .int l1, v2, v3] (.int l1 :: st) (im) (rm) := ev_iload_n pm_m43 d43_35 rfl rfl
theorem d43_36 : decode prog_1_method_4_code 36 = .ok (.aaload, 1) := by decide +kernel
theorem s43_36 {v0 v1 v2 v3 : Value} {a : Nat} {i : Int32} {st : List Value} {im : IM} {rm : RM} (hk : 2 ≤ kd a ∧ kd a ≤ 5) (hi : pm_in i (ln a) = true) : ev 43 36 [v0, v1, v2, v3] (.int i :: .ref a :: st) im rm = ev 43 37 [v0, v1, v2, v3] (pm_ro (rm a i.toNatClampNeg) :: st) (im) (rm) := ev_aald pm_m43 d43_36 hk hi rfl
theorem d43_37 : decode prog_1_method_4_code 37 = .ok (.iload_n 2, 1) := by decide +kernel
theorem s43_37 {v0 v1 v3 : Value} {l1 : Int32} {st : List Value} {im : IM} {rm : RM}  : ev 43 37 [v0, v1, .int l1, v3] st im rm = ev 43 38 [v0, v1, .int l1, v3] (.int l1 :: st) (im) (rm) := ev_iload_n pm_m43 d43_37 rfl rfl
theorem d43_38 : decode prog_1_method_4_code 38 = .ok (.iload_n 3, 1) := by decide +kernel
theorem s43_38 {v0 v1 v2 : Value} {l1 : Int32} {st : List Value} {im : IM} {rm : RM}  : ev 43 38 [v0, v1, v2, .int l1] st im rm = ev 43 39 [v0, v1, v2, .int l1] (.int l1 :: st) (im) (rm) := ev_iload_n pm_m43 d43_38 rfl rfl
theorem d43_39 : decode prog_1_method_4_code 39 = .ok (.invokestatic 131, 3) := by decide +kernel
theorem s43_39 {v0 v1 v2 v3 : Value} {p1 : Nat} {p2 : Int32} {p3 : Int32} {im : IM} {rm : RM}  : ev 43 39 [v0, v1, v2, v3] [.int p3, .int p2, .ref p1] im rm = (ev 78 0 [.ref p1, .int p2, .int p3, pm_u] [] im rm).bind (fun r => ev 43 42 [v0, v1, v2, v3] (r.1.toList ++ []) r.2.1 r.2.2) := ev_callS pm_m43 d43_39 (by decide) l7_131 rfl pm_m78 rfl ⟨rfl, rfl⟩ rfl rfl
theorem d43_42 : decode prog_1_method_4_code 42 = .ok (.ireturn, 1) := by decide +kernel
theorem s43_42 {v0 v1 v2 v3 : Value} {x : Int32} {im : IM} {rm : RM} : ev 43 42 [v0, v1, v2, v3] [.int x] im rm = some (some (.int x), im, rm) := ev_ireturn pm_m43 d43_42 rfl
theorem d44_0 : decode prog_1_method_5_code 0 = .ok (.iload_n 1, 1) := by decide +kernel
theorem s44_0 {v0 v2 v3 v4 : Value} {l1 : Int32} {st : List Value} {im : IM} {rm : RM}  : ev 44 0 [v0, .int l1, v2, v3, v4] st im rm = ev 44 1 [v0, .int l1, v2, v3, v4] (.int l1 :: st) (im) (rm) := ev_iload_n pm_m44 d44_0 rfl rfl
theorem d44_1 : decode prog_1_method_5_code 1 = .ok (.aload_n 0, 1) := by decide +kernel
theorem s44_1 {v1 v2 v3 v4 : Value} {l1 : Nat} {st : List Value} {im : IM} {rm : RM}  : ev 44 1 [.ref l1, v1, v2, v3, v4] st im rm = ev 44 2 [.ref l1, v1, v2, v3, v4] (.ref l1 :: st) (im) (rm) := ev_aload_n pm_m44 d44_1 rfl rfl
theorem d44_2 : decode prog_1_method_5_code 2 = .ok (.getfield 43, 3) := by decide +kernel
theorem s44_2 {v0 v1 v2 v3 v4 : Value} {a : Nat} {st : List Value} {im : IM} {rm : RM} (hk : kd a = 17) : ev 44 2 [v0, v1, v2, v3, v4] (.ref a :: st) im rm = ev 44 5 [v0, v1, v2, v3, v4] (pm_ro (rm a 5) :: st) (im) (rm) := ev_getR pm_m44 d44_2 f7_43 rfl hk rfl
theorem d44_5 : decode prog_1_method_5_code 5 = .ok (.arraylength, 1) := by decide +kernel
theorem s44_5 {v0 v1 v2 v3 v4 : Value} {a : Nat} {st : List Value} {im : IM} {rm : RM} (hk : kd a ≤ 5) : ev 44 5 [v0, v1, v2, v3, v4] (.ref a :: st) im rm = ev 44 6 [v0, v1, v2, v3, v4] (.int (nI (ln a)) :: st) (im) (rm) := ev_alen pm_m44 d44_5 hk rfl
theorem d44_6 : decode prog_1_method_5_code 6 = .ok (.invokestatic 109, 3) := by decide +kernel
theorem s44_6 {v0 v1 v2 v3 v4 : Value} {p1 : Int32} {p2 : Int32} {im : IM} {rm : RM}  : ev 44 6 [v0, v1, v2, v3, v4] [.int p2, .int p1] im rm = (ev 75 0 [.int p1, .int p2] [] im rm).bind (fun r => ev 44 9 [v0, v1, v2, v3, v4] (r.1.toList ++ []) r.2.1 r.2.2) := ev_callS pm_m44 d44_6 (by decide) l7_109 rfl pm_m75 rfl ⟨rfl, rfl⟩ rfl rfl
theorem d44_9 : decode prog_1_method_5_code 9 = .ok (.ifCond .eq 21, 3) := by decide +kernel
theorem s44_9 {v0 v1 v2 v3 v4 : Value} {x : Int32} {st : List Value} {im : IM} {rm : RM} : ev 44 9 [v0, v1, v2, v3, v4] (.int x :: st) im rm = if x = nI 0 then ev 44 30 [pm_u, pm_u, pm_u, pm_u, pm_u] st im rm else ev 44 12 [v0, v1, v2, v3, v4] st im rm := ev_if_eq (y := 0) pm_m44 d44_9 rfl rfl rfl
theorem d44_12 : decode prog_1_method_5_code 12 = .ok (.iload_n 2, 1) := by decide +kernel
theorem s44_12 {v0 v1 v3 v4 : Value} {l1 : Int32} {st : List Value} {im : IM} {rm : RM}  : ev 44 12 [v0, v1, .int l1, v3, v4] st im rm = ev 44 13 [v0, v1, .int l1, v3, v4] (.int l1 :: st) (im) (rm) := ev_iload_n pm_m44 d44_12 rfl rfl
theorem d44_13 : decode prog_1_method_5_code 13 = .ok (.getstatic 135, 3) := by decide +kernel
theorem s44_13 {v0 v1 v2 v3 v4 : Value}  {st : List Value} {im : IM} {rm : RM}  : ev 44 13 [v0, v1, v2, v3, v4] st im rm = ev 44 16 [v0, v1, v2, v3, v4] (.ref 1000201 :: st) (im) (rm) := ev_gets pm_m44 d44_13 rfl rfl
theorem d44_16 : decode prog_1_method_5_code 16 = .ok (.iload_n 1, 1) := by decide +kernel
theorem s44_16 {v0 v2 v3 v4 : Value} {l1 : Int32} {st : List Value} {im : IM} {rm : RM}  : ev 44 16 [v0, .int l1, v2, v3, v4] st im rm = ev 44 17 [v0, .int l1, v2, v3, v4] (.int l1 :: st) (im) (rm) := ev_iload_n pm_m44 d44_16 rfl rfl
theorem d44_17 : decode prog_1_method_5_code 17 = .ok (.iaload, 1) := by decide +kernel
theorem s44_17 {v0 v1 v2 v3 v4 : Value} {a : Nat} {i : Int32} {st : List Value} {im : IM} {rm : RM} (hk : kd a = 0) (hi : pm_in i (ln a) = true) : ev 44 17 [v0, v1, v2, v3, v4] (.int i :: .ref a :: st) im rm = ev 44 18 [v0, v1, v2, v3, v4] (.int (im a i.toNatClampNeg) :: st) (im) (rm) := ev_iald pm_m44 d44_17 hk hi rfl
theorem s44_17_t1 {v0 v1 v2 v3 v4 : Value} {i : Int32} {st : List Value} {im : IM} {rm : RM} (hk : kd 1000201 = 99) (hi : pm_in i 4 = true) : ev 44 17 [v0, v1, v2, v3, v4] (.int i :: .ref 1000201 :: st) im rm = ev 44 18 [v0, v1, v2, v3, v4] (.int ((pm_tabs.getD 1 []).getD i.toNatClampNeg 0) :: st) (im) (rm) := ev_tab (j := 1) pm_m44 d44_17 (by decide) hk hi rfl
theorem s44_17_t2 {v0 v1 v2 v3 v4 : Value} {i : Int32} {st : List Value} {im : IM} {rm : RM} (hk : kd 1000202 = 99) (hi : pm_in i 4 = true) : ev 44 17 [v0, v1, v2, v3, v4] (.int i :: .ref 1000202 :: st) im rm = ev 44 18 [v0, v1, v2, v3, v4] (.int ((pm_tabs.getD 2 []).getD i.toNatClampNeg 0) :: st) (im) (rm) := ev_tab (j := 2) pm_m44 d44_17 (by decide) hk hi rfl
theorem d44_18 : decode prog_1_method_5_code 18 = .ok (.if_icmp .lt 12, 3) := by decide +kernel
theorem s44_18 {v0 v1 v2 v3 v4 : Value} {x : Int32} {y : Int32} {st : List Value} {im : IM} {rm : RM} : ev 44 18 [v0, v1, v2, v3, v4] (.int y :: .int x :: st) im rm = if x < y then ev 44 30 [pm_u, pm_u, pm_u, pm_u, pm_u] st im rm else ev 44 21 [v0, v1, v2, v3, v4] st im rm := ev_icmp_lt pm_m44 d44_18 rfl rfl rfl
theorem d44_21 : decode prog_1_method_5_code 21 = .ok (.iload_n 2, 1) := by decide +kernel
theorem s44_21 {v0 v1 v3 v4 : Value} {l1 : Int32} {st : List Value} {im : IM} {rm : RM}  : ev 44 21 [v0, v1, .int l1, v3, v4] st im rm = ev 44 22 [v0, v1, .int l1, v3, v4] (.int l1 :: st) (im) (rm) := ev_iload_n pm_m44 d44_21 rfl rfl
theorem d44_22 : decode prog_1_method_5_code 22 = .ok (.getstatic 138, 3) := by decide +kernel
theorem s44_22 {v0 v1 v2 v3 v4 : Value}  {st : List Value} {im : IM} {rm : RM}  : ev 44 22 [v0, v1, v2, v3, v4] st im rm = ev 44 25 [v0, v1, v2, v3, v4] (.ref 1000202 :: st) (im) (rm) := ev_gets pm_m44 d44_22 rfl rfl
theorem d44_25 : decode prog_1_method_5_code 25 = .ok (.iload_n 1, 1) := by decide +kernel
theorem s44_25 {v0 v2 v3 v4 : Value} {l1 : Int32} {st : List Value} {im : IM} {rm : RM}  : ev 44 25 [v0, .int l1, v2, v3, v4] st im rm = ev 44 26 [v0, .int l1, v2, v3, v4] (.int l1 :: st) (im) (rm) := ev_iload_n pm_m44 d44_25 rfl rfl
theorem d44_26 : decode prog_1_method_5_code 26 = .ok (.iaload, 1) := by decide +kernel
theorem s44_26 {v0 v1 v2 v3 v4 : Value} {a : Nat} {i : Int32} {st : List Value} {im : IM} {rm : RM} (hk : kd a = 0) (hi : pm_in i (ln a) = true) : ev 44 26 [v0, v1, v2, v3, v4] (.int i :: .ref a :: st) im rm = ev 44 27 [v0, v1, v2, v3, v4] (.int (im a i.toNatClampNeg) :: st) (im) (rm) := ev_iald pm_m44 d44_26 hk hi rfl
theorem s44_26_t1 {v0 v1 v2 v3 v4 : Value} {i : Int32} {st : List Value} {im : IM} {rm : RM} (hk : kd 1000201 = 99) (hi : pm_in i 4 = true) : ev 44 26 [v0, v1, v2, v3, v4] (.int i :: .ref 1000201 :: st) im rm = ev 44 27 [v0, v1, v2, v3, v4] (.int ((pm_tabs.getD 1 []).getD i.toNatClampNeg 0) :: st) (im) (rm) := ev_tab (j := 1) pm_m44 d44_26 (by decide) hk hi rfl
theorem s44_26_t2 {v0 v1 v2 v3 v4 : Value} {i : Int32} {st : List Value} {im : IM} {rm : RM} (hk : kd 1000202 = 99) (hi : pm_in i 4 = true) : ev 44 26 [v0, v1, v2, v3, v4] (.int i :: .ref 1000202 :: st) im rm = ev 44 27 [v0, v1, v2, v3, v4] (.int ((pm_tabs.getD 2 []).getD i.toNatClampNeg 0) :: st) (im) (rm) := ev_tab (j := 2) pm_m44 d44_26 (by decide) hk hi rfl
theorem d44_27 : decode prog_1_method_5_code 27 = .ok (.if_icmp .le 6, 3) := by decide +kernel
theorem s44_27 {v0 v1 v2 v3 v4 : Value} {x : Int32} {y : Int32} {st : List Value} {im : IM} {rm : RM} : ev 44 27 [v0, v1, v2, v3, v4] (.int y :: .int x :: st) im rm = if x ≤ y then ev 44 33 [v0, v1, v2, pm_u, pm_u] st im rm else ev 44 30 [pm_u, pm_u, pm_u, pm_u, pm_u] st im rm := ev_icmp_le pm_m44 d44_27 rfl rfl rfl
theorem d44_30 : decode prog_1_method_5_code 30 = .ok (.bipush (-3), 2) := by decide +kernel
theorem s44_30 {v0 v1 v2 v3 v4 : Value}  {st : List Value} {im : IM} {rm : RM}  : ev 44 30 [v0, v1, v2, v3, v4] st im rm = ev 44 32 [v0, v1, v2, v3, v4] (.int ((-3 : Int32)) :: st) (im) (rm) := ev_bipush pm_m44 d44_30 rfl rfl
theorem d44_32 : decode prog_1_method_5_code 32 = .ok (.ireturn, 1) := by decide +kernel
theorem s44_32 {v0 v1 v2 v3 v4 : Value} {x : Int32} {im : IM} {rm : RM} : ev 44 32 [v0, v1, v2, v3, v4] [.int x] im rm = some (some (.int x), im, rm) := ev_ireturn pm_m44 d44_32 rfl
theorem d44_33 : decode prog_1_method_5_code 33 = .ok (.aload_n 0, 1) := by decide +kernel
theorem s44_33 {v1 v2 v3 v4 : Value} {l1 : Nat} {st : List Value} {im : IM} {rm : RM}  : ev 44 33 [.ref l1, v1, v2, v3, v4] st im rm = ev 44 34 [.ref l1, v1, v2, v3, v4] (.ref l1 :: st) (im) (rm) := ev_aload_n pm_m44 d44_33 rfl rfl
theorem d44_34 : decode prog_1_method_5_code 34 = .ok (.getfield 43, 3) := by decide +kernel
theorem s44_34 {v0 v1 v2 v3 v4 : Value} {a : Nat} {st : List Value} {im : IM} {rm : RM} (hk : kd a = 17) : ev 44 34 [v0, v1, v2, v3, v4] (.ref a :: st) im rm = ev 44 37 [v0, v1, v2, v3, v4] (pm_ro (rm a 5) :: st) (im) (rm) := ev_getR pm_m44 d44_34 f7_43 rfl hk rfl
theorem d44_37 : decode prog_1_method_5_code 37 = .ok (.iload_n 1, 1) := by decide +kernel
theorem s44_37 {v0 v2 v3 v4 : Value} {l1 : Int32} {st : List Value} {im : IM} {rm : RM}  : ev 44 37 [v0, .int l1, v2, v3, v4] st im rm = ev 44 38 [v0, .int l1, v2, v3, v4] (.int l1 :: st) (im) (rm) := ev_iload_n pm_m44 d44_37 rfl rfl
theorem d44_38 : decode prog_1_method_5_code 38 = .ok (.iload_n 2, 1) := by decide +kernel
theorem s44_38 {v0 v1 v3 v4 : Value} {l1 : Int32} {st : List Value} {im : IM} {rm : RM}  : ev 44 38 [v0, v1, .int l1, v3, v4] st im rm = ev 44 39 [v0, v1, .int l1, v3, v4] (.int l1 :: st) (im) (rm) := ev_iload_n pm_m44 d44_38 rfl rfl
theorem d44_39 : decode prog_1_method_5_code 39 = .ok (.invokestatic 131, 3) := by decide +kernel
theorem s44_39 {v0 v1 v2 v3 v4 : Value} {p1 : Nat} {p2 : Int32} {p3 : Int32} {im : IM} {rm : RM}  : ev 44 39 [v0, v1, v2, v3, v4] [.int p3, .int p2, .ref p1] im rm = (ev 78 0 [.ref p1, .int p2, .int p3, pm_u] [] im rm).bind (fun r => ev 44 42 [v0, v1, v2, v3, v4] (r.1.toList ++ []) r.2.1 r.2.2) := ev_callS pm_m44 d44_39 (by decide) l7_131 rfl pm_m78 rfl ⟨rfl, rfl⟩ rfl rfl
theorem d44_42 : decode prog_1_method_5_code 42 = .ok (.istore_n 3, 1) := by decide +kernel
theorem s44_42 {v0 v1 v3 v4 : Value} {l1 : Int32} {x2 : Int32} {st : List Value} {im : IM} {rm : RM}  : ev 44 42 [v0, v1, .int l1, v3, v4] (.int x2 :: st) im rm = ev 44 43 [v0, v1, .int l1, .int x2, v4] st (im) (rm) := ev_istore_n pm_m44 d44_42 (Nat.le_of_ble_eq_true rfl) rfl rfl
theorem d44_43 : decode prog_1_method_5_code 43 = .ok (.iconst 0, 1) := by decide +kernel
theorem s44_43 {v0 v1 v2 v3 v4 : Value}  {st : List Value} {im : IM} {rm : RM}  : ev 44 43 [v0, v1, v2, v3, v4] st im rm = ev 44 44 [v0, v1, v2, v3, v4] (.int (nI 0) :: st) (im) (rm) := ev_iconst pm_m44 d44_43 rfl rfl
theorem d44_44 : decode prog_1_method_5_code 44 = .ok (.istore 4, 2) := by decide +kernel
theorem s44_44 {v0 v1 v2 v4 : Value} {l1 : Int32} {x2 : Int32} {st : List Value} {im : IM} {rm : RM}  : ev 44 44 [v0, v1, v2, .int l1, v4] (.int x2 :: st) im rm = ev 44 46 [v0, pm_u, pm_u, .int l1, .int x2] st (im) (rm) := ev_istore pm_m44 d44_44 (Nat.le_of_ble_eq_true rfl) rfl rfl
theorem d44_46 : decode prog_1_method_5_code 46 = .ok (.iload 4, 2) := by decide +kernel
theorem s44_46 {v0 v1 v2 v3 : Value} {l1 : Int32} {st : List Value} {im : IM} {rm : RM}  : ev 44 46 [v0, v1, v2, v3, .int l1] st im rm = ev 44 48 [v0, v1, v2, v3, .int l1] (.int l1 :: st) (im) (rm) := ev_iload pm_m44 d44_46 rfl rfl
theorem d44_48 : decode prog_1_method_5_code 48 = .ok (.bipush 6, 2) := by decide +kernel
theorem s44_48 {v0 v1 v2 v3 v4 : Value}  {st : List Value} {im : IM} {rm : RM}  : ev 44 48 [v0, v1, v2, v3, v4] st im rm = ev 44 50 [v0, v1, v2, v3, v4] (.int (nI 6) :: st) (im) (rm) := ev_bipush pm_m44 d44_48 rfl rfl
theorem d44_50 : decode prog_1_method_5_code 50 = .ok (.if_icmp .ge 25, 3) := by decide +kernel
theorem s44_50 {v0 v1 v2 v3 v4 : Value} {x : Int32} {y : Int32} {st : List Value} {im : IM} {rm : RM} : ev 44 50 [v0, v1, v2, v3, v4] (.int y :: .int x :: st) im rm = if y ≤ x then ev 44 75 [pm_u, pm_u, pm_u, v3, pm_u] st im rm else ev 44 53 [v0, v1, v2, v3, v4] st im rm := ev_icmp_ge pm_m44 d44_50 rfl rfl rfl
theorem d44_53 : decode prog_1_method_5_code 53 = .ok (.aload_n 0, 1) := by decide +kernel
theorem s44_53 {v1 v2 v3 v4 : Value} {l1 : Nat} {st : List Value} {im : IM} {rm : RM}  : ev 44 53 [.ref l1, v1, v2, v3, v4] st im rm = ev 44 54 [.ref l1, v1, v2, v3, v4] (.ref l1 :: st) (im) (rm) := ev_aload_n pm_m44 d44_53 rfl rfl
theorem d44_54 : decode prog_1_method_5_code 54 = .ok (.getfield 11, 3) := by decide +kernel
theorem s44_54 {v0 v1 v2 v3 v4 : Value} {a : Nat} {st : List Value} {im : IM} {rm : RM} (hk : kd a = 17) : ev 44 54 [v0, v1, v2, v3, v4] (.ref a :: st) im rm = ev 44 57 [v0, v1, v2, v3, v4] (pm_ro (rm a 0) :: st) (im) (rm) := ev_getR pm_m44 d44_54 f7_11 rfl hk rfl
theorem d44_57 : decode prog_1_method_5_code 57 = .ok (.iload 4, 2) := by decide +kernel
theorem s44_57 {v0 v1 v2 v3 : Value} {l1 : Int32} {st : List Value} {im : IM} {rm : RM}  : ev 44 57 [v0, v1, v2, v3, .int l1] st im rm = ev 44 59 [v0, v1, v2, v3, .int l1] (.int l1 :: st) (im) (rm) := ev_iload pm_m44 d44_57 rfl rfl
theorem d44_59 : decode prog_1_method_5_code 59 = .ok (.aaload, 1) := by decide +kernel
theorem s44_59 {v0 v1 v2 v3 v4 : Value} {a : Nat} {i : Int32} {st : List Value} {im : IM} {rm : RM} (hk : 2 ≤ kd a ∧ kd a ≤ 5) (hi : pm_in i (ln a) = true) : ev 44 59 [v0, v1, v2, v3, v4] (.int i :: .ref a :: st) im rm = ev 44 60 [v0, v1, v2, v3, v4] (pm_ro (rm a i.toNatClampNeg) :: st) (im) (rm) := ev_aald pm_m44 d44_59 hk hi rfl
theorem d44_60 : decode prog_1_method_5_code 60 = .ok (.aload_n 0, 1) := by decide +kernel
theorem s44_60 {v1 v2 v3 v4 : Value} {l1 : Nat} {st : List Value} {im : IM} {rm : RM}  : ev 44 60 [.ref l1, v1, v2, v3, v4] st im rm = ev 44 61 [.ref l1, v1, v2, v3, v4] (.ref l1 :: st) (im) (rm) := ev_aload_n pm_m44 d44_60 rfl rfl
theorem d44_61 : decode prog_1_method_5_code 61 = .ok (.getfield 43, 3) := by decide +kernel
theorem s44_61 {v0 v1 v2 v3 v4 : Value} {a : Nat} {st : List Value} {im : IM} {rm : RM} (hk : kd a = 17) : ev 44 61 [v0, v1, v2, v3, v4] (.ref a :: st) im rm = ev 44 64 [v0, v1, v2, v3, v4] (pm_ro (rm a 5) :: st) (im) (rm) := ev_getR pm_m44 d44_61 f7_43 rfl hk rfl
theorem d44_64 : decode prog_1_method_5_code 64 = .ok (.iconst 1, 1) := by decide +kernel
theorem s44_64 {v0 v1 v2 v3 v4 : Value}  {st : List Value} {im : IM} {rm : RM}  : ev 44 64 [v0, v1, v2, v3, v4] st im rm = ev 44 65 [v0, v1, v2, v3, v4] (.int (nI 1) :: st) (im) (rm) := ev_iconst pm_m44 d44_64 rfl rfl
theorem d44_65 : decode prog_1_method_5_code 65 = .ok (.iaload, 1) := by decide +kernel
theorem s44_65 {v0 v1 v2 v3 v4 : Value} {a : Nat} {i : Int32} {st : List Value} {im : IM} {rm : RM} (hk : kd a = 0) (hi : pm_in i (ln a) = true) : ev 44 65 [v0, v1, v2, v3, v4] (.int i :: .ref a :: st) im rm = ev 44 66 [v0, v1, v2, v3, v4] (.int (im a i.toNatClampNeg) :: st) (im) (rm) := ev_iald pm_m44 d44_65 hk hi rfl
theorem s44_65_t1 {v0 v1 v2 v3 v4 : Value} {i : Int32} {st : List Value} {im : IM} {rm : RM} (hk : kd 1000201 = 99) (hi : pm_in i 4 = true) : ev 44 65 [v0, v1, v2, v3, v4] (.int i :: .ref 1000201 :: st) im rm = ev 44 66 [v0, v1, v2, v3, v4] (.int ((pm_tabs.getD 1 []).getD i.toNatClampNeg 0) :: st) (im) (rm) := ev_tab (j := 1) pm_m44 d44_65 (by decide) hk hi rfl
theorem s44_65_t2 {v0 v1 v2 v3 v4 : Value} {i : Int32} {st : List Value} {im : IM} {rm : RM} (hk : kd 1000202 = 99) (hi : pm_in i 4 = true) : ev 44 65 [v0, v1, v2, v3, v4] (.int i :: .ref 1000202 :: st) im rm = ev 44 66 [v0, v1, v2, v3, v4] (.int ((pm_tabs.getD 2 []).getD i.toNatClampNeg 0) :: st) (im) (rm) := ev_tab (j := 2) pm_m44 d44_65 (by decide) hk hi rfl
theorem d44_66 : decode prog_1_method_5_code 66 = .ok (.invokevirtual 127, 3) := by decide +kernel
theorem s44_66 {v0 v1 v2 v3 v4 : Value} {a : Nat} {p1 : Int32} {im : IM} {rm : RM} (hk : kd a = 10) : ev 44 66 [v0, v1, v2, v3, v4] [.int p1, .ref a] im rm = (ev 4 0 [.ref a, .int p1, pm_u, pm_u] [] im rm).bind (fun r => ev 44 69 [v0, v1, v2, v3, v4] (r.1.toList ++ []) r.2.1 r.2.2) := ev_callV pm_m44 d44_66 l7_127 rfl pm_m4 (by decide) hk rfl ⟨rfl, rfl⟩ rfl rfl
theorem d44_69 : decode prog_1_method_5_code 69 = .ok (.iinc 4 1, 3) := by decide +kernel
theorem s44_69 {v0 v1 v2 : Value} {l1 : Int32} {l2 : Int32} {st : List Value} {im : IM} {rm : RM}  : ev 44 69 [v0, v1, v2, .int l1, .int l2] st im rm = ev 44 72 [v0, v1, v2, .int l1, .int (l2 + nI 1)] st (im) (rm) := ev_iinc pm_m44 d44_69 rfl rfl rfl rfl
theorem d44_72 : decode prog_1_method_5_code 72 = .ok (.goto (-26), 3) := by decide +kernel
theorem s44_72 {v0 v1 v2 v3 v4 : Value}  {st : List Value} {im : IM} {rm : RM}  : ev 44 72 [v0, v1, v2, v3, v4] st im rm = ev 44 46 [v0, pm_u, pm_u, v3, v4] st (im) (rm) := ev_goto pm_m44 d44_72 rfl rfl
theorem d44_75 : decode prog_1_method_5_code 75 = .ok (.iload_n 3, 1) := by decide +kernel
theorem s44_75 {v0 v1 v2 v4 : Value} {l1 : Int32} {st : List Value} {im : IM} {rm : RM}  : ev 44 75 [v0, v1, v2, .int l1, v4] st im rm = ev 44 76 [v0, v1, v2, .int l1, v4] (.int l1 :: st) (im) (rm) := ev_iload_n pm_m44 d44_75 rfl rfl
theorem d44_76 : decode prog_1_method_5_code 76 = .ok (.ireturn, 1) := by decide +kernel
theorem s44_76 {v0 v1 v2 v3 v4 : Value} {x : Int32} {im : IM} {rm : RM} : ev 44 76 [v0, v1, v2, v3, v4] [.int x] im rm = some (some (.int x), im, rm) := ev_ireturn pm_m44 d44_76 rfl
theorem d45_0 : decode prog_1_method_6_code 0 = .ok (.aload_n 0, 1) := by decide +kernel
theorem s45_0 {v1 v2 v3 : Value} {l1 : Nat} {st : List Value} {im : IM} {rm : RM}  : ev 45 0 [.ref l1, v1, v2, v3] st im rm = ev 45 1 [.ref l1, v1, v2, v3] (.ref l1 :: st) (im) (rm) := ev_aload_n pm_m45 d45_0 rfl rfl
theorem d45_1 : decode prog_1_method_6_code 1 = .ok (.iload_n 1, 1) := by decide +kernel
theorem s45_1 {v0 v2 v3 : Value} {l1 : Int32} {st : List Value} {im : IM} {rm : RM}  : ev 45 1 [v0, .int l1, v2, v3] st im rm = ev 45 2 [v0, .int l1, v2, v3] (.int l1 :: st) (im) (rm) := ev_iload_n pm_m45 d45_1 rfl rfl
theorem d45_2 : decode prog_1_method_6_code 2 = .ok (.iload_n 2, 1) := by decide +kernel
theorem s45_2 {v0 v1 v3 : Value} {l1 : Int32} {st : List Value} {im : IM} {rm : RM}  : ev 45 2 [v0, v1, .int l1, v3] st im rm = ev 45 3 [v0, v1, .int l1, v3] (.int l1 :: st) (im) (rm) := ev_iload_n pm_m45 d45_2 rfl rfl
theorem d45_3 : decode prog_1_method_6_code 3 = .ok (.invokevirtual 141, 3) := by decide +kernel
theorem s45_3 {v0 v1 v2 v3 : Value} {a : Nat} {p1 : Int32} {p2 : Int32} {im : IM} {rm : RM} (hk : kd a = 17) : ev 45 3 [v0, v1, v2, v3] [.int p2, .int p1, .ref a] im rm = (ev 77 0 [.ref a, .int p1, .int p2] [] im rm).bind (fun r => ev 45 6 [v0, v1, v2, v3] (r.1.toList ++ []) r.2.1 r.2.2) := ev_callV pm_m45 d45_3 l7_141 rfl pm_m77 (by decide) hk rfl ⟨rfl, rfl⟩ rfl rfl
theorem d45_6 : decode prog_1_method_6_code 6 = .ok (.ifCond .ne 6, 3) := by decide +kernel
theorem s45_6 {v0 v1 v2 v3 : Value} {x : Int32} {st : List Value} {im : IM} {rm : RM} : ev 45 6 [v0, v1, v2, v3] (.int x :: st) im rm = if x = nI 0 then ev 45 9 [v0, v1, v2, v3] st im rm else ev 45 12 [v0, v1, v2, v3] st im rm := ev_if_ne (y := 0) pm_m45 d45_6 rfl rfl rfl
theorem d45_9 : decode prog_1_method_6_code 9 = .ok (.bipush (-2), 2) := by decide +kernel
theorem s45_9 {v0 v1 v2 v3 : Value}  {st : List Value} {im : IM} {rm : RM}  : ev 45 9 [v0, v1, v2, v3] st im rm = ev 45 11 [v0, v1, v2, v3] (.int ((-2 : Int32)) :: st) (im) (rm) := ev_bipush pm_m45 d45_9 rfl rfl
theorem d45_11 : decode prog_1_method_6_code 11 = .ok (.ireturn, 1) := by decide +kernel
theorem s45_11 {v0 v1 v2 v3 : Value} {x : Int32} {im : IM} {rm : RM} : ev 45 11 [v0, v1, v2, v3] [.int x] im rm = some (some (.int x), im, rm) := ev_ireturn pm_m45 d45_11 rfl
theorem d45_12 : decode prog_1_method_6_code 12 = .ok (.iload_n 3, 1) := by decide +kernel
theorem s45_12 {v0 v1 v2 : Value} {l1 : Int32} {st : List Value} {im : IM} {rm : RM}  : ev 45 12 [v0, v1, v2, .int l1] st im rm = ev 45 13 [v0, v1, v2, .int l1] (.int l1 :: st) (im) (rm) := ev_iload_n pm_m45 d45_12 rfl rfl
theorem d45_13 : decode prog_1_method_6_code 13 = .ok (.bipush 8, 2) := by decide +kernel
theorem s45_13 {v0 v1 v2 v3 : Value}  {st : List Value} {im : IM} {rm : RM}  : ev 45 13 [v0, v1, v2, v3] st im rm = ev 45 15 [v0, v1, v2, v3] (.int (nI 8) :: st) (im) (rm) := ev_bipush pm_m45 d45_13 rfl rfl
theorem d45_15 : decode prog_1_method_6_code 15 = .ok (.invokestatic 109, 3) := by decide +kernel
theorem s45_15 {v0 v1 v2 v3 : Value} {p1 : Int32} {p2 : Int32} {im : IM} {rm : RM}  : ev 45 15 [v0, v1, v2, v3] [.int p2, .int p1] im rm = (ev 75 0 [.int p1, .int p2] [] im rm).bind (fun r => ev 45 18 [v0, v1, v2, v3] (r.1.toList ++ []) r.2.1 r.2.2) := ev_callS pm_m45 d45_15 (by decide) l7_109 rfl pm_m75 rfl ⟨rfl, rfl⟩ rfl rfl
theorem d45_18 : decode prog_1_method_6_code 18 = .ok (.ifCond .ne 6, 3) := by decide +kernel
theorem s45_18 {v0 v1 v2 v3 : Value} {x : Int32} {st : List Value} {im : IM} {rm : RM} : ev 45 18 [v0, v1, v2, v3] (.int x :: st) im rm = if x = nI 0 then ev 45 21 [v0, v1, v2, v3] st im rm else ev 45 24 [v0, v1, v2, v3] st im rm := ev_if_ne (y := 0) pm_m45 d45_18 rfl rfl rfl
theorem d45_21 : decode prog_1_method_6_code 21 = .ok (.bipush (-3), 2) := by decide +kernel
theorem s45_21 {v0 v1 v2 v3 : Value}  {st : List Value} {im : IM} {rm : RM}  : ev 45 21 [v0, v1, v2, v3] st im rm = ev 45 23 [v0, v1, v2, v3] (.int ((-3 : Int32)) :: st) (im) (rm) := ev_bipush pm_m45 d45_21 rfl rfl
theorem d45_23 : decode prog_1_method_6_code 23 = .ok (.ireturn, 1) := by decide +kernel
theorem s45_23 {v0 v1 v2 v3 : Value} {x : Int32} {im : IM} {rm : RM} : ev 45 23 [v0, v1, v2, v3] [.int x] im rm = some (some (.int x), im, rm) := ev_ireturn pm_m45 d45_23 rfl
theorem d45_24 : decode prog_1_method_6_code 24 = .ok (.aload_n 0, 1) := by decide +kernel
theorem s45_24 {v1 v2 v3 : Value} {l1 : Nat} {st : List Value} {im : IM} {rm : RM}  : ev 45 24 [.ref l1, v1, v2, v3] st im rm = ev 45 25 [.ref l1, v1, v2, v3] (.ref l1 :: st) (im) (rm) := ev_aload_n pm_m45 d45_24 rfl rfl
theorem d45_25 : decode prog_1_method_6_code 25 = .ok (.getfield 11, 3) := by decide +kernel
theorem s45_25 {v0 v1 v2 v3 : Value} {a : Nat} {st : List Value} {im : IM} {rm : RM} (hk : kd a = 17) : ev 45 25 [v0, v1, v2, v3] (.ref a :: st) im rm = ev 45 28 [v0, v1, v2, v3] (pm_ro (rm a 0) :: st) (im) (rm) := ev_getR pm_m45 d45_25 f7_11 rfl hk rfl
theorem d45_28 : decode prog_1_method_6_code 28 = .ok (.iload_n 1, 1) := by decide +kernel
theorem s45_28 {v0 v2 v3 : Value} {l1 : Int32} {st : List Value} {im : IM} {rm : RM}  : ev 45 28 [v0, .int l1, v2, v3] st im rm = ev 45 29 [v0, .int l1, v2, v3] (.int l1 :: st) (im) (rm) := ev_iload_n pm_m45 d45_28 rfl rfl
theorem d45_29 : decode prog_1_method_6_code 29 = .ok (.aaload, 1) := by decide +kernel
theorem s45_29 {v0 v1 v2 v3 : Value} {a : Nat} {i : Int32} {st : List Value} {im : IM} {rm : RM} (hk : 2 ≤ kd a ∧ kd a ≤ 5) (hi : pm_in i (ln a) = true) : ev 45 29 [v0, v1, v2, v3] (.int i :: .ref a :: st) im rm = ev 45 30 [v0, v1, v2, v3] (pm_ro (rm a i.toNatClampNeg) :: st) (im) (rm) := ev_aald pm_m45 d45_29 hk hi rfl
theorem d45_30 : decode prog_1_method_6_code 30 = .ok (.iload_n 2, 1) := by decide +kernel
theorem s45_30 {v0 v1 v3 : Value} {l1 : Int32} {st : List Value} {im : IM} {rm : RM}  : ev 45 30 [v0, v1, .int l1, v3] st im rm = ev 45 31 [v0, v1, .int l1, v3] (.int l1 :: st) (im) (rm) := ev_iload_n pm_m45 d45_30 rfl rfl
theorem d45_31 : decode prog_1_method_6_code 31 = .ok (.aload_n 0, 1) := by decide +kernel
theorem s45_31 {v1 v2 v3 : Value} {l1 : Nat} {st : List Value} {im : IM} {rm : RM}  : ev 45 31 [.ref l1, v1, v2, v3] st im rm = ev 45 32 [.ref l1, v1, v2, v3] (.ref l1 :: st) (im) (rm) := ev_aload_n pm_m45 d45_31 rfl rfl
theorem d45_32 : decode prog_1_method_6_code 32 = .ok (.getfield 87, 3) := by decide +kernel
theorem s45_32 {v0 v1 v2 v3 : Value} {a : Nat} {st : List Value} {im : IM} {rm : RM} (hk : kd a = 17) : ev 45 32 [v0, v1, v2, v3] (.ref a :: st) im rm = ev 45 35 [v0, v1, v2, v3] (pm_ro (rm a 14) :: st) (im) (rm) := ev_getR pm_m45 d45_32 f7_87 rfl hk rfl
theorem d45_35 : decode prog_1_method_6_code 35 = .ok (.invokevirtual 144, 3) := by decide +kernel
theorem s45_35 {v0 v1 v2 v3 : Value} {a : Nat} {p1 : Int32} {p2 : Nat} {im : IM} {rm : RM} (hk : kd a = 10) : ev 45 35 [v0, v1, v2, v3] [.ref p2, .int p1, .ref a] im rm = (ev 6 0 [.ref a, .int p1, .ref p2] [] im rm).bind (fun r => ev 45 38 [v0, v1, v2, v3] (r.1.toList ++ []) r.2.1 r.2.2) := ev_callV pm_m45 d45_35 l7_144 rfl pm_m6 (by decide) hk rfl ⟨rfl, rfl⟩ rfl rfl
theorem d45_38 : decode prog_1_method_6_code 38 = .ok (.aload_n 0, 1) := by decide +kernel
theorem s45_38 {v1 v2 v3 : Value} {l1 : Nat} {st : List Value} {im : IM} {rm : RM}  : ev 45 38 [.ref l1, v1, v2, v3] st im rm = ev 45 39 [.ref l1, v1, v2, v3] (.ref l1 :: st) (im) (rm) := ev_aload_n pm_m45 d45_38 rfl rfl
theorem d45_39 : decode prog_1_method_6_code 39 = .ok (.getfield 87, 3) := by decide +kernel
theorem s45_39 {v0 v1 v2 v3 : Value} {a : Nat} {st : List Value} {im : IM} {rm : RM} (hk : kd a = 17) : ev 45 39 [v0, v1, v2, v3] (.ref a :: st) im rm = ev 45 42 [v0, v1, v2, v3] (pm_ro (rm a 14) :: st) (im) (rm) := ev_getR pm_m45 d45_39 f7_87 rfl hk rfl
theorem d45_42 : decode prog_1_method_6_code 42 = .ok (.iload_n 3, 1) := by decide +kernel
theorem s45_42 {v0 v1 v2 : Value} {l1 : Int32} {st : List Value} {im : IM} {rm : RM}  : ev 45 42 [v0, v1, v2, .int l1] st im rm = ev 45 43 [v0, v1, v2, .int l1] (.int l1 :: st) (im) (rm) := ev_iload_n pm_m45 d45_42 rfl rfl
theorem d45_43 : decode prog_1_method_6_code 43 = .ok (.iaload, 1) := by decide +kernel
theorem s45_43 {v0 v1 v2 v3 : Value} {a : Nat} {i : Int32} {st : List Value} {im : IM} {rm : RM} (hk : kd a = 0) (hi : pm_in i (ln a) = true) : ev 45 43 [v0, v1, v2, v3] (.int i :: .ref a :: st) im rm = ev 45 44 [v0, v1, v2, v3] (.int (im a i.toNatClampNeg) :: st) (im) (rm) := ev_iald pm_m45 d45_43 hk hi rfl
theorem d45_44 : decode prog_1_method_6_code 44 = .ok (.ireturn, 1) := by decide +kernel
theorem s45_44 {v0 v1 v2 v3 : Value} {x : Int32} {im : IM} {rm : RM} : ev 45 44 [v0, v1, v2, v3] [.int x] im rm = some (some (.int x), im, rm) := ev_ireturn pm_m45 d45_44 rfl
theorem d46_0 : decode prog_1_method_7_code 0 = .ok (.iload_n 3, 1) := by decide +kernel
theorem s46_0 {v0 v1 v2 : Value} {l1 : Int32} {st : List Value} {im : IM} {rm : RM}  : ev 46 0 [v0, v1, v2, .int l1] st im rm = ev 46 1 [v0, v1, v2, .int l1] (.int l1 :: st) (im) (rm) := ev_iload_n pm_m46 d46_0 rfl rfl
theorem d46_1 : decode prog_1_method_7_code 1 = .ok (.iconst 1, 1) := by decide +kernel
theorem s46_1 {v0 v1 v2 v3 : Value}  {st : List Value} {im : IM} {rm : RM}  : ev 46 1 [v0, v1, v2, v3] st im rm = ev 46 2 [v0, v1, v2, v3] (.int (nI 1) :: st) (im) (rm) := ev_iconst pm_m46 d46_1 rfl rfl
theorem d46_2 : decode prog_1_method_7_code 2 = .ok (.if_icmp .lt 9, 3) := by decide +kernel
theorem s46_2 {v0 v1 v2 v3 : Value} {x : Int32} {y : Int32} {st : List Value} {im : IM} {rm : RM} : ev 46 2 [v0, v1, v2, v3] (.int y :: .int x :: st) im rm = if x < y then ev 46 11 [pm_u, pm_u, pm_u, pm_u] st im rm else ev 46 5 [v0, v1, v2, v3] st im rm := ev_icmp_lt pm_m46 d46_2 rfl rfl rfl
theorem d46_5 : decode prog_1_method_7_code 5 = .ok (.iload_n 3, 1) := by decide +kernel
theorem s46_5 {v0 v1 v2 : Value} {l1 : Int32} {st : List Value} {im : IM} {rm : RM}  : ev 46 5 [v0, v1, v2, .int l1] st im rm = ev 46 6 [v0, v1, v2, .int l1] (.int l1 :: st) (im) (rm) := ev_iload_n pm_m46 d46_5 rfl rfl
theorem d46_6 : decode prog_1_method_7_code 6 = .ok (.bipush 8, 2) := by decide +kernel
theorem s46_6 {v0 v1 v2 v3 : Value}  {st : List Value} {im : IM} {rm : RM}  : ev 46 6 [v0, v1, v2, v3] st im rm = ev 46 8 [v0, v1, v2, v3] (.int (nI 8) :: st) (im) (rm) := ev_bipush pm_m46 d46_6 rfl rfl
theorem d46_8 : decode prog_1_method_7_code 8 = .ok (.if_icmp .le 6, 3) := by decide +kernel
theorem s46_8 {v0 v1 v2 v3 : Value} {x : Int32} {y : Int32} {st : List Value} {im : IM} {rm : RM} : ev 46 8 [v0, v1, v2, v3] (.int y :: .int x :: st) im rm = if x ≤ y then ev 46 14 [v0, v1, pm_u, v3] st im rm else ev 46 11 [pm_u, pm_u, pm_u, pm_u] st im rm := ev_icmp_le pm_m46 d46_8 rfl rfl rfl
theorem d46_11 : decode prog_1_method_7_code 11 = .ok (.bipush (-3), 2) := by decide +kernel
theorem s46_11 {v0 v1 v2 v3 : Value}  {st : List Value} {im : IM} {rm : RM}  : ev 46 11 [v0, v1, v2, v3] st im rm = ev 46 13 [v0, v1, v2, v3] (.int ((-3 : Int32)) :: st) (im) (rm) := ev_bipush pm_m46 d46_11 rfl rfl
theorem d46_13 : decode prog_1_method_7_code 13 = .ok (.ireturn, 1) := by decide +kernel
theorem s46_13 {v0 v1 v2 v3 : Value} {x : Int32} {im : IM} {rm : RM} : ev 46 13 [v0, v1, v2, v3] [.int x] im rm = some (some (.int x), im, rm) := ev_ireturn pm_m46 d46_13 rfl
theorem d46_14 : decode prog_1_method_7_code 14 = .ok (.aload_n 0, 1) := by decide +kernel
theorem s46_14 {v1 v2 v3 : Value} {l1 : Nat} {st : List Value} {im : IM} {rm : RM}  : ev 46 14 [.ref l1, v1, v2, v3] st im rm = ev 46 15 [.ref l1, v1, v2, v3] (.ref l1 :: st) (im) (rm) := ev_aload_n pm_m46 d46_14 rfl rfl
theorem d46_15 : decode prog_1_method_7_code 15 = .ok (.getfield 30, 3) := by decide +kernel
theorem s46_15 {v0 v1 v2 v3 : Value} {a : Nat} {st : List Value} {im : IM} {rm : RM} (hk : kd a = 17) : ev 46 15 [v0, v1, v2, v3] (.ref a :: st) im rm = ev 46 18 [v0, v1, v2, v3] (pm_ro (rm a 3) :: st) (im) (rm) := ev_getR pm_m46 d46_15 f7_30 rfl hk rfl
theorem d46_18 : decode prog_1_method_7_code 18 = .ok (.getfield 148, 3) := by decide +kernel
theorem s46_18 {v0 v1 v2 v3 : Value} {a : Nat} {st : List Value} {im : IM} {rm : RM} (hk : kd a = 16) : ev 46 18 [v0, v1, v2, v3] (.ref a :: st) im rm = ev 46 21 [v0, v1, v2, v3] (.int (im a 0) :: st) (im) (rm) := ev_getI pm_m46 d46_18 f7_148 rfl hk rfl
theorem d46_21 : decode prog_1_method_7_code 21 = .ok (.iload_n 3, 1) := by decide +kernel
theorem s46_21 {v0 v1 v2 : Value} {l1 : Int32} {st : List Value} {im : IM} {rm : RM}  : ev 46 21 [v0, v1, v2, .int l1] st im rm = ev 46 22 [v0, v1, v2, .int l1] (.int l1 :: st) (im) (rm) := ev_iload_n pm_m46 d46_21 rfl rfl
theorem d46_22 : decode prog_1_method_7_code 22 = .ok (.iadd, 1) := by decide +kernel
theorem s46_22 {v0 v1 v2 v3 : Value} {x : Int32} {y : Int32} {st : List Value} {im : IM} {rm : RM}  : ev 46 22 [v0, v1, v2, v3] (.int y :: .int x :: st) im rm = ev 46 23 [v0, v1, v2, v3] (.int (x + y) :: st) (im) (rm) := ev_iadd pm_m46 d46_22 rfl
theorem d46_23 : decode prog_1_method_7_code 23 = .ok (.sipush 160, 3) := by decide +kernel
theorem s46_23 {v0 v1 v2 v3 : Value}  {st : List Value} {im : IM} {rm : RM}  : ev 46 23 [v0, v1, v2, v3] st im rm = ev 46 26 [v0, v1, v2, v3] (.int (nI 160) :: st) (im) (rm) := ev_sipush pm_m46 d46_23 rfl rfl
theorem d46_26 : decode prog_1_method_7_code 26 = .ok (.if_icmp .le 6, 3) := by decide +kernel
theorem s46_26 {v0 v1 v2 v3 : Value} {x : Int32} {y : Int32} {st : List Value} {im : IM} {rm : RM} : ev 46 26 [v0, v1, v2, v3] (.int y :: .int x :: st) im rm = if x ≤ y then ev 46 32 [v0, v1, pm_u, v3] st im rm else ev 46 29 [v0, v1, v2, v3] st im rm := ev_icmp_le pm_m46 d46_26 rfl rfl rfl
theorem d46_29 : decode prog_1_method_7_code 29 = .ok (.bipush (-5), 2) := by decide +kernel
theorem s46_29 {v0 v1 v2 v3 : Value}  {st : List Value} {im : IM} {rm : RM}  : ev 46 29 [v0, v1, v2, v3] st im rm = ev 46 31 [v0, v1, v2, v3] (.int ((-5 : Int32)) :: st) (im) (rm) := ev_bipush pm_m46 d46_29 rfl rfl
theorem d46_31 : decode prog_1_method_7_code 31 = .ok (.ireturn, 1) := by decide +kernel
theorem s46_31 {v0 v1 v2 v3 : Value} {x : Int32} {im : IM} {rm : RM} : ev 46 31 [v0, v1, v2, v3] [.int x] im rm = some (some (.int x), im, rm) := ev_ireturn pm_m46 d46_31 rfl
theorem d46_32 : decode prog_1_method_7_code 32 = .ok (.aload_n 0, 1) := by decide +kernel
theorem s46_32 {v1 v2 v3 : Value} {l1 : Nat} {st : List Value} {im : IM} {rm : RM}  : ev 46 32 [.ref l1, v1, v2, v3] st im rm = ev 46 33 [.ref l1, v1, v2, v3] (.ref l1 :: st) (im) (rm) := ev_aload_n pm_m46 d46_32 rfl rfl
theorem d46_33 : decode prog_1_method_7_code 33 = .ok (.getfield 30, 3) := by decide +kernel
theorem s46_33 {v0 v1 v2 v3 : Value} {a : Nat} {st : List Value} {im : IM} {rm : RM} (hk : kd a = 17) : ev 46 33 [v0, v1, v2, v3] (.ref a :: st) im rm = ev 46 36 [v0, v1, v2, v3] (pm_ro (rm a 3) :: st) (im) (rm) := ev_getR pm_m46 d46_33 f7_30 rfl hk rfl
theorem d46_36 : decode prog_1_method_7_code 36 = .ok (.lload_n 1, 1) := by decide +kernel
theorem s46_36 {v0 v2 v3 : Value} {l1 : Int64} {st : List Value} {im : IM} {rm : RM}  : ev 46 36 [v0, .long l1, v2, v3] st im rm = ev 46 37 [v0, .long l1, v2, v3] (.long l1 :: st) (im) (rm) := ev_lload_n pm_m46 d46_36 rfl rfl
theorem d46_37 : decode prog_1_method_7_code 37 = .ok (.iload_n 3, 1) := by decide +kernel
theorem s46_37 {v0 v1 v2 : Value} {l1 : Int32} {st : List Value} {im : IM} {rm : RM}  : ev 46 37 [v0, v1, v2, .int l1] st im rm = ev 46 38 [v0, v1, v2, .int l1] (.int l1 :: st) (im) (rm) := ev_iload_n pm_m46 d46_37 rfl rfl
theorem d46_38 : decode prog_1_method_7_code 38 = .ok (.invokevirtual 149, 3) := by decide +kernel
theorem s46_38 {v0 v1 v2 v3 : Value} {a : Nat} {p1 : Int64} {p2 : Int32} {im : IM} {rm : RM} (hk : kd a = 16) : ev 46 38 [v0, v1, v2, v3] [.int p2, .long p1, .ref a] im rm = (ev 25 0 [.ref a, .long p1, pm_u, .int p2, pm_u] [] im rm).bind (fun r => ev 46 41 [v0, v1, v2, v3] (r.1.toList ++ []) r.2.1 r.2.2) := ev_callV pm_m46 d46_38 l7_149 rfl pm_m25 (by decide) hk rfl ⟨rfl, rfl⟩ rfl rfl
theorem d46_41 : decode prog_1_method_7_code 41 = .ok (.aload_n 0, 1) := by decide +kernel
theorem s46_41 {v1 v2 v3 : Value} {l1 : Nat} {st : List Value} {im : IM} {rm : RM}  : ev 46 41 [.ref l1, v1, v2, v3] st im rm = ev 46 42 [.ref l1, v1, v2, v3] (.ref l1 :: st) (im) (rm) := ev_aload_n pm_m46 d46_41 rfl rfl
theorem d46_42 : decode prog_1_method_7_code 42 = .ok (.getfield 30, 3) := by decide +kernel
theorem s46_42 {v0 v1 v2 v3 : Value} {a : Nat} {st : List Value} {im : IM} {rm : RM} (hk : kd a = 17) : ev 46 42 [v0, v1, v2, v3] (.ref a :: st) im rm = ev 46 45 [v0, v1, v2, v3] (pm_ro (rm a 3) :: st) (im) (rm) := ev_getR pm_m46 d46_42 f7_30 rfl hk rfl
theorem d46_45 : decode prog_1_method_7_code 45 = .ok (.getfield 148, 3) := by decide +kernel
theorem s46_45 {v0 v1 v2 v3 : Value} {a : Nat} {st : List Value} {im : IM} {rm : RM} (hk : kd a = 16) : ev 46 45 [v0, v1, v2, v3] (.ref a :: st) im rm = ev 46 48 [v0, v1, v2, v3] (.int (im a 0) :: st) (im) (rm) := ev_getI pm_m46 d46_45 f7_148 rfl hk rfl
theorem d46_48 : decode prog_1_method_7_code 48 = .ok (.ireturn, 1) := by decide +kernel
theorem s46_48 {v0 v1 v2 v3 : Value} {x : Int32} {im : IM} {rm : RM} : ev 46 48 [v0, v1, v2, v3] [.int x] im rm = some (some (.int x), im, rm) := ev_ireturn pm_m46 d46_48 rfl
theorem d47_0 : decode prog_1_method_8_code 0 = .ok (.aload_n 0, 1) := by decide +kernel
theorem s47_0 {v1 : Value} {l1 : Nat} {st : List Value} {im : IM} {rm : RM}  : ev 47 0 [.ref l1, v1] st im rm = ev 47 1 [.ref l1, v1] (.ref l1 :: st) (im) (rm) := ev_aload_n pm_m47 d47_0 rfl rfl
theorem d47_1 : decode prog_1_method_8_code 1 = .ok (.getfield 30, 3) := by decide +kernel
theorem s47_1 {v0 v1 : Value} {a : Nat} {st : List Value} {im : IM} {rm : RM} (hk : kd a = 17) : ev 47 1 [v0, v1] (.ref a :: st) im rm = ev 47 4 [v0, v1] (pm_ro (rm a 3) :: st) (im) (rm) := ev_getR pm_m47 d47_1 f7_30 rfl hk rfl
theorem d47_4 : decode prog_1_method_8_code 4 = .ok (.getfield 148, 3) := by decide +kernel
theorem s47_4 {v0 v1 : Value} {a : Nat} {st : List Value} {im : IM} {rm : RM} (hk : kd a = 16) : ev 47 4 [v0, v1] (.ref a :: st) im rm = ev 47 7 [v0, v1] (.int (im a 0) :: st) (im) (rm) := ev_getI pm_m47 d47_4 f7_148 rfl hk rfl
theorem d47_7 : decode prog_1_method_8_code 7 = .ok (.istore_n 1, 1) := by decide +kernel
theorem s47_7 {v1 : Value} {l1 : Nat} {x2 : Int32} {st : List Value} {im : IM} {rm : RM}  : ev 47 7 [.ref l1, v1] (.int x2 :: st) im rm = ev 47 8 [.ref l1, .int x2] st (im) (rm) := ev_istore_n pm_m47 d47_7 (Nat.le_of_ble_eq_true rfl) rfl rfl
theorem d47_8 : decode prog_1_method_8_code 8 = .ok (.aload_n 0, 1) := by decide +kernel
theorem s47_8 {v1 : Value} {l1 : Nat} {st : List Value} {im : IM} {rm : RM}  : ev 47 8 [.ref l1, v1] st im rm = ev 47 9 [.ref l1, v1] (.ref l1 :: st) (im) (rm) := ev_aload_n pm_m47 d47_8 rfl rfl
theorem d47_9 : decode prog_1_method_8_code 9 = .ok (.getfield 30, 3) := by decide +kernel
theorem s47_9 {v0 v1 : Value} {a : Nat} {st : List Value} {im : IM} {rm : RM} (hk : kd a = 17) : ev 47 9 [v0, v1] (.ref a :: st) im rm = ev 47 12 [v0, v1] (pm_ro (rm a 3) :: st) (im) (rm) := ev_getR pm_m47 d47_9 f7_30 rfl hk rfl
theorem d47_12 : decode prog_1_method_8_code 12 = .ok (.iconst 0, 1) := by decide +kernel
theorem s47_12 {v0 v1 : Value}  {st : List Value} {im : IM} {rm : RM}  : ev 47 12 [v0, v1] st im rm = ev 47 13 [v0, v1] (.int (nI 0) :: st) (im) (rm) := ev_iconst pm_m47 d47_12 rfl rfl
theorem d47_13 : decode prog_1_method_8_code 13 = .ok (.putfield 148, 3) := by decide +kernel
theorem s47_13 {v0 v1 : Value} {a : Nat} {v : Int32} {st : List Value} {im : IM} {rm : RM} (hk : kd a = 16) : ev 47 13 [v0, v1] (.int v :: .ref a :: st) im rm = ev 47 16 [v0, v1] st (pm_w2 im a 0 v) (rm) := ev_putI pm_m47 d47_13 f7_148 rfl rfl hk rfl
theorem d47_16 : decode prog_1_method_8_code 16 = .ok (.iload_n 1, 1) := by decide +kernel
theorem s47_16 {v0 : Value} {l1 : Int32} {st : List Value} {im : IM} {rm : RM}  : ev 47 16 [v0, .int l1] st im rm = ev 47 17 [v0, .int l1] (.int l1 :: st) (im) (rm) := ev_iload_n pm_m47 d47_16 rfl rfl
theorem d47_17 : decode prog_1_method_8_code 17 = .ok (.ireturn, 1) := by decide +kernel
theorem s47_17 {v0 v1 : Value} {x : Int32} {im : IM} {rm : RM} : ev 47 17 [v0, v1] [.int x] im rm = some (some (.int x), im, rm) := ev_ireturn pm_m47 d47_17 rfl
theorem d48_0 : decode prog_1_method_9_code 0 = .ok (.iload_n 1, 1) := by decide +kernel
theorem s48_0 {v0 : Value} {l1 : Int32} {st : List Value} {im : IM} {rm : RM}  : ev 48 0 [v0, .int l1] st im rm = ev 48 1 [v0, .int l1] (.int l1 :: st) (im) (rm) := ev_iload_n pm_m48 d48_0 rfl rfl
theorem d48_1 : decode prog_1_method_9_code 1 = .ok (.ifCond .ne 15, 3) := by decide +kernel
theorem s48_1 {v0 v1 : Value} {x : Int32} {st : List Value} {im : IM} {rm : RM} : ev 48 1 [v0, v1] (.int x :: st) im rm = if x = nI 0 then ev 48 4 [v0, v1] st im rm else ev 48 16 [v0, v1] st im rm := ev_if_ne (y := 0) pm_m48 d48_1 rfl rfl rfl
theorem d48_4 : decode prog_1_method_9_code 4 = .ok (.aload_n 0, 1) := by decide +kernel
theorem s48_4 {v1 : Value} {l1 : Nat} {st : List Value} {im : IM} {rm : RM}  : ev 48 4 [.ref l1, v1] st im rm = ev 48 5 [.ref l1, v1] (.ref l1 :: st) (im) (rm) := ev_aload_n pm_m48 d48_4 rfl rfl
theorem d48_5 : decode prog_1_method_9_code 5 = .ok (.getfield 30, 3) := by decide +kernel
theorem s48_5 {v0 v1 : Value} {a : Nat} {st : List Value} {im : IM} {rm : RM} (hk : kd a = 17) : ev 48 5 [v0, v1] (.ref a :: st) im rm = ev 48 8 [v0, v1] (pm_ro (rm a 3) :: st) (im) (rm) := ev_getR pm_m48 d48_5 f7_30 rfl hk rfl
theorem d48_8 : decode prog_1_method_9_code 8 = .ok (.aload_n 0, 1) := by decide +kernel
theorem s48_8 {v1 : Value} {l1 : Nat} {st : List Value} {im : IM} {rm : RM}  : ev 48 8 [.ref l1, v1] st im rm = ev 48 9 [.ref l1, v1] (.ref l1 :: st) (im) (rm) := ev_aload_n pm_m48 d48_8 rfl rfl
theorem d48_9 : decode prog_1_method_9_code 9 = .ok (.getfield 71, 3) := by decide +kernel
theorem s48_9 {v0 v1 : Value} {a : Nat} {st : List Value} {im : IM} {rm : RM} (hk : kd a = 17) : ev 48 9 [v0, v1] (.ref a :: st) im rm = ev 48 12 [v0, v1] (pm_ro (rm a 11) :: st) (im) (rm) := ev_getR pm_m48 d48_9 f7_71 rfl hk rfl
theorem d48_12 : decode prog_1_method_9_code 12 = .ok (.invokevirtual 152, 3) := by decide +kernel
theorem s48_12 {v0 v1 : Value} {a : Nat} {p1 : Nat} {im : IM} {rm : RM} (hk : kd a = 16) : ev 48 12 [v0, v1] [.ref p1, .ref a] im rm = (ev 26 0 [.ref a, .ref p1, pm_u, pm_u] [] im rm).bind (fun r => ev 48 15 [v0, v1] (r.1.toList ++ []) r.2.1 r.2.2) := ev_callV pm_m48 d48_12 l7_152 rfl pm_m26 (by decide) hk rfl ⟨rfl, rfl⟩ rfl rfl
theorem d48_15 : decode prog_1_method_9_code 15 = .ok (.ireturn, 1) := by decide +kernel
theorem s48_15 {v0 v1 : Value} {x : Int32} {im : IM} {rm : RM} : ev 48 15 [v0, v1] [.int x] im rm = some (some (.int x), im, rm) := ev_ireturn pm_m48 d48_15 rfl
theorem d48_16 : decode prog_1_method_9_code 16 = .ok (.iload_n 1, 1) := by decide +kernel
theorem s48_16 {v0 : Value} {l1 : Int32} {st : List Value} {im : IM} {rm : RM}  : ev 48 16 [v0, .int l1] st im rm = ev 48 17 [v0, .int l1] (.int l1 :: st) (im) (rm) := ev_iload_n pm_m48 d48_16 rfl rfl
theorem d48_17 : decode prog_1_method_9_code 17 = .ok (.iconst 1, 1) := by decide +kernel
theorem s48_17 {v0 v1 : Value}  {st : List Value} {im : IM} {rm : RM}  : ev 48 17 [v0, v1] st im rm = ev 48 18 [v0, v1] (.int (nI 1) :: st) (im) (rm) := ev_iconst pm_m48 d48_17 rfl rfl
theorem d48_18 : decode prog_1_method_9_code 18 = .ok (.if_icmp .ne 17, 3) := by decide +kernel
theorem s48_18 {v0 v1 : Value} {x : Int32} {y : Int32} {st : List Value} {im : IM} {rm : RM} : ev 48 18 [v0, v1] (.int y :: .int x :: st) im rm = if x = y then ev 48 21 [v0, v1] st im rm else ev 48 35 [pm_u, pm_u] st im rm := ev_icmp_ne pm_m48 d48_18 rfl rfl rfl
theorem d48_21 : decode prog_1_method_9_code 21 = .ok (.aload_n 0, 1) := by decide +kernel
theorem s48_21 {v1 : Value} {l1 : Nat} {st : List Value} {im : IM} {rm : RM}  : ev 48 21 [.ref l1, v1] st im rm = ev 48 22 [.ref l1, v1] (.ref l1 :: st) (im) (rm) := ev_aload_n pm_m48 d48_21 rfl rfl
theorem d48_22 : decode prog_1_method_9_code 22 = .ok (.getfield 30, 3) := by decide +kernel
theorem s48_22 {v0 v1 : Value} {a : Nat} {st : List Value} {im : IM} {rm : RM} (hk : kd a = 17) : ev 48 22 [v0, v1] (.ref a :: st) im rm = ev 48 25 [v0, v1] (pm_ro (rm a 3) :: st) (im) (rm) := ev_getR pm_m48 d48_22 f7_30 rfl hk rfl
theorem d48_25 : decode prog_1_method_9_code 25 = .ok (.aload_n 0, 1) := by decide +kernel
theorem s48_25 {v1 : Value} {l1 : Nat} {st : List Value} {im : IM} {rm : RM}  : ev 48 25 [.ref l1, v1] st im rm = ev 48 26 [.ref l1, v1] (.ref l1 :: st) (im) (rm) := ev_aload_n pm_m48 d48_25 rfl rfl
theorem d48_26 : decode prog_1_method_9_code 26 = .ok (.getfield 76, 3) := by decide +kernel
theorem s48_26 {v0 v1 : Value} {a : Nat} {st : List Value} {im : IM} {rm : RM} (hk : kd a = 17) : ev 48 26 [v0, v1] (.ref a :: st) im rm = ev 48 29 [v0, v1] (pm_ro (rm a 12) :: st) (im) (rm) := ev_getR pm_m48 d48_26 f7_76 rfl hk rfl
theorem d48_29 : decode prog_1_method_9_code 29 = .ok (.invokevirtual 156, 3) := by decide +kernel
theorem s48_29 {v0 v1 : Value} {a : Nat} {p1 : Nat} {im : IM} {rm : RM} (hk : kd a = 16) : ev 48 29 [v0, v1] [.ref p1, .ref a] im rm = (ev 27 0 [.ref a, .ref p1, pm_u, pm_u] [] im rm).bind (fun r => ev 48 32 [v0, v1] (r.1.toList ++ []) r.2.1 r.2.2) := ev_callV pm_m48 d48_29 l7_156 rfl pm_m27 (by decide) hk rfl ⟨rfl, rfl⟩ rfl rfl
theorem d48_32 : decode prog_1_method_9_code 32 = .ok (.goto 5, 3) := by decide +kernel
theorem s48_32 {v0 v1 : Value}  {st : List Value} {im : IM} {rm : RM}  : ev 48 32 [v0, v1] st im rm = ev 48 37 [pm_u, pm_u] st (im) (rm) := ev_goto pm_m48 d48_32 rfl rfl
theorem d48_35 : decode prog_1_method_9_code 35 = .ok (.bipush (-3), 2) := by decide +kernel
theorem s48_35 {v0 v1 : Value}  {st : List Value} {im : IM} {rm : RM}  : ev 48 35 [v0, v1] st im rm = ev 48 37 [pm_u, pm_u] (.int ((-3 : Int32)) :: st) (im) (rm) := ev_bipush pm_m48 d48_35 rfl rfl
theorem d48_37 : decode prog_1_method_9_code 37 = .ok (.ireturn, 1) := by decide +kernel
theorem s48_37 {v0 v1 : Value} {x : Int32} {im : IM} {rm : RM} : ev 48 37 [v0, v1] [.int x] im rm = some (some (.int x), im, rm) := ev_ireturn pm_m48 d48_37 rfl
theorem d49_0 : decode prog_1_method_10_code 0 = .ok (.iload_n 1, 1) := by decide +kernel
theorem s49_0 {v0 v2 : Value} {l1 : Int32} {st : List Value} {im : IM} {rm : RM}  : ev 49 0 [v0, .int l1, v2] st im rm = ev 49 1 [v0, .int l1, v2] (.int l1 :: st) (im) (rm) := ev_iload_n pm_m49 d49_0 rfl rfl
theorem d49_1 : decode prog_1_method_10_code 1 = .ok (.iconst 4, 1) := by decide +kernel
theorem s49_1 {v0 v1 v2 : Value}  {st : List Value} {im : IM} {rm : RM}  : ev 49 1 [v0, v1, v2] st im rm = ev 49 2 [v0, v1, v2] (.int (nI 4) :: st) (im) (rm) := ev_iconst pm_m49 d49_1 rfl rfl
theorem d49_2 : decode prog_1_method_10_code 2 = .ok (.invokestatic 109, 3) := by decide +kernel
theorem s49_2 {v0 v1 v2 : Value} {p1 : Int32} {p2 : Int32} {im : IM} {rm : RM}  : ev 49 2 [v0, v1, v2] [.int p2, .int p1] im rm = (ev 75 0 [.int p1, .int p2] [] im rm).bind (fun r => ev 49 5 [v0, v1, v2] (r.1.toList ++ []) r.2.1 r.2.2) := ev_callS pm_m49 d49_2 (by decide) l7_109 rfl pm_m75 rfl ⟨rfl, rfl⟩ rfl rfl
theorem d49_5 : decode prog_1_method_10_code 5 = .ok (.ifCond .ne 6, 3) := by decide +kernel
theorem s49_5 {v0 v1 v2 : Value} {x : Int32} {st : List Value} {im : IM} {rm : RM} : ev 49 5 [v0, v1, v2] (.int x :: st) im rm = if x = nI 0 then ev 49 8 [v0, v1, v2] st im rm else ev 49 11 [v0, v1, pm_u] st im rm := ev_if_ne (y := 0) pm_m49 d49_5 rfl rfl rfl
theorem d49_8 : decode prog_1_method_10_code 8 = .ok (.bipush (-2), 2) := by decide +kernel
theorem s49_8 {v0 v1 v2 : Value}  {st : List Value} {im : IM} {rm : RM}  : ev 49 8 [v0, v1, v2] st im rm = ev 49 10 [v0, v1, v2] (.int ((-2 : Int32)) :: st) (im) (rm) := ev_bipush pm_m49 d49_8 rfl rfl
theorem d49_10 : decode prog_1_method_10_code 10 = .ok (.ireturn, 1) := by decide +kernel
theorem s49_10 {v0 v1 v2 : Value} {x : Int32} {im : IM} {rm : RM} : ev 49 10 [v0, v1, v2] [.int x] im rm = some (some (.int x), im, rm) := ev_ireturn pm_m49 d49_10 rfl
theorem d49_11 : decode prog_1_method_10_code 11 = .ok (.aload_n 0, 1) := by decide +kernel
theorem s49_11 {v1 v2 : Value} {l1 : Nat} {st : List Value} {im : IM} {rm : RM}  : ev 49 11 [.ref l1, v1, v2] st im rm = ev 49 12 [.ref l1, v1, v2] (.ref l1 :: st) (im) (rm) := ev_aload_n pm_m49 d49_11 rfl rfl
theorem d49_12 : decode prog_1_method_10_code 12 = .ok (.getfield 30, 3) := by decide +kernel
theorem s49_12 {v0 v1 v2 : Value} {a : Nat} {st : List Value} {im : IM} {rm : RM} (hk : kd a = 17) : ev 49 12 [v0, v1, v2] (.ref a :: st) im rm = ev 49 15 [v0, v1, v2] (pm_ro (rm a 3) :: st) (im) (rm) := ev_getR pm_m49 d49_12 f7_30 rfl hk rfl
theorem d49_15 : decode prog_1_method_10_code 15 = .ok (.aload_n 0, 1) := by decide +kernel
theorem s49_15 {v1 v2 : Value} {l1 : Nat} {st : List Value} {im : IM} {rm : RM}  : ev 49 15 [.ref l1, v1, v2] st im rm = ev 49 16 [.ref l1, v1, v2] (.ref l1 :: st) (im) (rm) := ev_aload_n pm_m49 d49_15 rfl rfl
theorem d49_16 : decode prog_1_method_10_code 16 = .ok (.getfield 71, 3) := by decide +kernel
theorem s49_16 {v0 v1 v2 : Value} {a : Nat} {st : List Value} {im : IM} {rm : RM} (hk : kd a = 17) : ev 49 16 [v0, v1, v2] (.ref a :: st) im rm = ev 49 19 [v0, v1, v2] (pm_ro (rm a 11) :: st) (im) (rm) := ev_getR pm_m49 d49_16 f7_71 rfl hk rfl
theorem d49_19 : decode prog_1_method_10_code 19 = .ok (.invokevirtual 152, 3) := by decide +kernel
theorem s49_19 {v0 v1 v2 : Value} {a : Nat} {p1 : Nat} {im : IM} {rm : RM} (hk : kd a = 16) : ev 49 19 [v0, v1, v2] [.ref p1, .ref a] im rm = (ev 26 0 [.ref a, .ref p1, pm_u, pm_u] [] im rm).bind (fun r => ev 49 22 [v0, v1, v2] (r.1.toList ++ []) r.2.1 r.2.2) := ev_callV pm_m49 d49_19 l7_152 rfl pm_m26 (by decide) hk rfl ⟨rfl, rfl⟩ rfl rfl
theorem d49_22 : decode prog_1_method_10_code 22 = .ok (.iconst (-1), 1) := by decide +kernel
theorem s49_22 {v0 v1 v2 : Value}  {st : List Value} {im : IM} {rm : RM}  : ev 49 22 [v0, v1, v2] st im rm = ev 49 23 [v0, v1, v2] (.int ((-1 : Int32)) :: st) (im) (rm) := ev_iconst pm_m49 d49_22 rfl rfl
theorem d49_23 : decode prog_1_method_10_code 23 = .ok (.if_icmp .eq 6, 3) := by decide +kernel
theorem s49_23 {v0 v1 v2 : Value} {x : Int32} {y : Int32} {st : List Value} {im : IM} {rm : RM} : ev 49 23 [v0, v1, v2] (.int y :: .int x :: st) im rm = if x = y then ev 49 29 [v0, v1, pm_u] st im rm else ev 49 26 [v0, v1, v2] st im rm := ev_icmp_eq pm_m49 d49_23 rfl rfl rfl
theorem d49_26 : decode prog_1_method_10_code 26 = .ok (.bipush (-4), 2) := by decide +kernel
theorem s49_26 {v0 v1 v2 : Value}  {st : List Value} {im : IM} {rm : RM}  : ev 49 26 [v0, v1, v2] st im rm = ev 49 28 [v0, v1, v2] (.int ((-4 : Int32)) :: st) (im) (rm) := ev_bipush pm_m49 d49_26 rfl rfl
theorem d49_28 : decode prog_1_method_10_code 28 = .ok (.ireturn, 1) := by decide +kernel
theorem s49_28 {v0 v1 v2 : Value} {x : Int32} {im : IM} {rm : RM} : ev 49 28 [v0, v1, v2] [.int x] im rm = some (some (.int x), im, rm) := ev_ireturn pm_m49 d49_28 rfl
theorem d49_29 : decode prog_1_method_10_code 29 = .ok (.aload_n 0, 1) := by decide +kernel
theorem s49_29 {v1 v2 : Value} {l1 : Nat} {st : List Value} {im : IM} {rm : RM}  : ev 49 29 [.ref l1, v1, v2] st im rm = ev 49 30 [.ref l1, v1, v2] (.ref l1 :: st) (im) (rm) := ev_aload_n pm_m49 d49_29 rfl rfl
theorem d49_30 : decode prog_1_method_10_code 30 = .ok (.getfield 17, 3) := by decide +kernel
theorem s49_30 {v0 v1 v2 : Value} {a : Nat} {st : List Value} {im : IM} {rm : RM} (hk : kd a = 17) : ev 49 30 [v0, v1, v2] (.ref a :: st) im rm = ev 49 33 [v0, v1, v2] (pm_ro (rm a 1) :: st) (im) (rm) := ev_getR pm_m49 d49_30 f7_17 rfl hk rfl
theorem d49_33 : decode prog_1_method_10_code 33 = .ok (.iload_n 1, 1) := by decide +kernel
theorem s49_33 {v0 v2 : Value} {l1 : Int32} {st : List Value} {im : IM} {rm : RM}  : ev 49 33 [v0, .int l1, v2] st im rm = ev 49 34 [v0, .int l1, v2] (.int l1 :: st) (im) (rm) := ev_iload_n pm_m49 d49_33 rfl rfl
theorem d49_34 : decode prog_1_method_10_code 34 = .ok (.aaload, 1) := by decide +kernel
theorem s49_34 {v0 v1 v2 : Value} {a : Nat} {i : Int32} {st : List Value} {im : IM} {rm : RM} (hk : 2 ≤ kd a ∧ kd a ≤ 5) (hi : pm_in i (ln a) = true) : ev 49 34 [v0, v1, v2] (.int i :: .ref a :: st) im rm = ev 49 35 [v0, v1, v2] (pm_ro (rm a i.toNatClampNeg) :: st) (im) (rm) := ev_aald pm_m49 d49_34 hk hi rfl
theorem d49_35 : decode prog_1_method_10_code 35 = .ok (.astore_n 2, 1) := by decide +kernel
theorem s49_35 {v0 v2 : Value} {l1 : Int32} {x2 : Nat} {st : List Value} {im : IM} {rm : RM}  : ev 49 35 [v0, .int l1, v2] (.ref x2 :: st) im rm = ev 49 36 [v0, .int l1, .ref x2] st (im) (rm) := ev_astore_n pm_m49 d49_35 (Nat.le_of_ble_eq_true rfl) rfl rfl
theorem d49_36 : decode prog_1_method_10_code 36 = .ok (.aload_n 0, 1) := by decide +kernel
theorem s49_36 {v1 v2 : Value} {l1 : Nat} {st : List Value} {im : IM} {rm : RM}  : ev 49 36 [.ref l1, v1, v2] st im rm = ev 49 37 [.ref l1, v1, v2] (.ref l1 :: st) (im) (rm) := ev_aload_n pm_m49 d49_36 rfl rfl
theorem d49_37 : decode prog_1_method_10_code 37 = .ok (.getfield 17, 3) := by decide +kernel
theorem s49_37 {v0 v1 v2 : Value} {a : Nat} {st : List Value} {im : IM} {rm : RM} (hk : kd a = 17) : ev 49 37 [v0, v1, v2] (.ref a :: st) im rm = ev 49 40 [v0, v1, v2] (pm_ro (rm a 1) :: st) (im) (rm) := ev_getR pm_m49 d49_37 f7_17 rfl hk rfl
theorem d49_40 : decode prog_1_method_10_code 40 = .ok (.iload_n 1, 1) := by decide +kernel
theorem s49_40 {v0 v2 : Value} {l1 : Int32} {st : List Value} {im : IM} {rm : RM}  : ev 49 40 [v0, .int l1, v2] st im rm = ev 49 41 [v0, .int l1, v2] (.int l1 :: st) (im) (rm) := ev_iload_n pm_m49 d49_40 rfl rfl
theorem d49_41 : decode prog_1_method_10_code 41 = .ok (.aload_n 0, 1) := by decide +kernel
theorem s49_41 {v1 v2 : Value} {l1 : Nat} {st : List Value} {im : IM} {rm : RM}  : ev 49 41 [.ref l1, v1, v2] st im rm = ev 49 42 [.ref l1, v1, v2] (.ref l1 :: st) (im) (rm) := ev_aload_n pm_m49 d49_41 rfl rfl
theorem d49_42 : decode prog_1_method_10_code 42 = .ok (.getfield 71, 3) := by decide +kernel
theorem s49_42 {v0 v1 v2 : Value} {a : Nat} {st : List Value} {im : IM} {rm : RM} (hk : kd a = 17) : ev 49 42 [v0, v1, v2] (.ref a :: st) im rm = ev 49 45 [v0, v1, v2] (pm_ro (rm a 11) :: st) (im) (rm) := ev_getR pm_m49 d49_42 f7_71 rfl hk rfl
theorem d49_45 : decode prog_1_method_10_code 45 = .ok (.aastore, 1) := by decide +kernel
theorem s49_45 {v0 v1 v2 : Value} {a : Nat} {b : Nat} {i : Int32} {st : List Value} {im : IM} {rm : RM} (hk : 2 ≤ kd a ∧ kd a ≤ 4) (hi : pm_in i (ln a) = true) (hb : kd b = 10 + pm_comp (kd a)) : ev 49 45 [v0, v1, v2] (.ref b :: .int i :: .ref a :: st) im rm = ev 49 46 [v0, v1, v2] st (im) (pm_w2 rm a i.toNatClampNeg (some b)) := ev_aast pm_m49 d49_45 hk hi hb rfl
theorem d49_46 : decode prog_1_method_10_code 46 = .ok (.aload_n 0, 1) := by decide +kernel
theorem s49_46 {v1 v2 : Value} {l1 : Nat} {st : List Value} {im : IM} {rm : RM}  : ev 49 46 [.ref l1, v1, v2] st im rm = ev 49 47 [.ref l1, v1, v2] (.ref l1 :: st) (im) (rm) := ev_aload_n pm_m49 d49_46 rfl rfl
theorem d49_47 : decode prog_1_method_10_code 47 = .ok (.aload_n 2, 1) := by decide +kernel
theorem s49_47 {v0 v1 : Value} {l1 : Nat} {st : List Value} {im : IM} {rm : RM}  : ev 49 47 [v0, v1, .ref l1] st im rm = ev 49 48 [v0, v1, .ref l1] (.ref l1 :: st) (im) (rm) := ev_aload_n pm_m49 d49_47 rfl rfl
theorem d49_48 : decode prog_1_method_10_code 48 = .ok (.putfield 71, 3) := by decide +kernel
theorem s49_48 {v0 v1 v2 : Value} {a : Nat} {b : Nat} {st : List Value} {im : IM} {rm : RM} (hk : kd a = 17) : ev 49 48 [v0, v1, v2] (.ref b :: .ref a :: st) im rm = ev 49 51 [v0, v1, v2] st (im) (pm_w2 rm a 11 (some b)) := ev_putR pm_m49 d49_48 f7_71 rfl rfl hk rfl
theorem d49_51 : decode prog_1_method_10_code 51 = .ok (.aload_n 0, 1) := by decide +kernel
theorem s49_51 {v1 v2 : Value} {l1 : Nat} {st : List Value} {im : IM} {rm : RM}  : ev 49 51 [.ref l1, v1, v2] st im rm = ev 49 52 [.ref l1, v1, v2] (.ref l1 :: st) (im) (rm) := ev_aload_n pm_m49 d49_51 rfl rfl
theorem d49_52 : decode prog_1_method_10_code 52 = .ok (.getfield 30, 3) := by decide +kernel
theorem s49_52 {v0 v1 v2 : Value} {a : Nat} {st : List Value} {im : IM} {rm : RM} (hk : kd a = 17) : ev 49 52 [v0, v1, v2] (.ref a :: st) im rm = ev 49 55 [v0, v1, v2] (pm_ro (rm a 3) :: st) (im) (rm) := ev_getR pm_m49 d49_52 f7_30 rfl hk rfl
theorem d49_55 : decode prog_1_method_10_code 55 = .ok (.iconst 0, 1) := by decide +kernel
theorem s49_55 {v0 v1 v2 : Value}  {st : List Value} {im : IM} {rm : RM}  : ev 49 55 [v0, v1, v2] st im rm = ev 49 56 [v0, v1, v2] (.int (nI 0) :: st) (im) (rm) := ev_iconst pm_m49 d49_55 rfl rfl
theorem d49_56 : decode prog_1_method_10_code 56 = .ok (.putfield 148, 3) := by decide +kernel
theorem s49_56 {v0 v1 v2 : Value} {a : Nat} {v : Int32} {st : List Value} {im : IM} {rm : RM} (hk : kd a = 16) : ev 49 56 [v0, v1, v2] (.int v :: .ref a :: st) im rm = ev 49 59 [v0, v1, v2] st (pm_w2 im a 0 v) (rm) := ev_putI pm_m49 d49_56 f7_148 rfl rfl hk rfl
theorem d49_59 : decode prog_1_method_10_code 59 = .ok (.aload_n 0, 1) := by decide +kernel
theorem s49_59 {v1 v2 : Value} {l1 : Nat} {st : List Value} {im : IM} {rm : RM}  : ev 49 59 [.ref l1, v1, v2] st im rm = ev 49 60 [.ref l1, v1, v2] (.ref l1 :: st) (im) (rm) := ev_aload_n pm_m49 d49_59 rfl rfl
theorem d49_60 : decode prog_1_method_10_code 60 = .ok (.getfield 17, 3) := by decide +kernel
theorem s49_60 {v0 v1 v2 : Value} {a : Nat} {st : List Value} {im : IM} {rm : RM} (hk : kd a = 17) : ev 49 60 [v0, v1, v2] (.ref a :: st) im rm = ev 49 63 [v0, v1, v2] (pm_ro (rm a 1) :: st) (im) (rm) := ev_getR pm_m49 d49_60 f7_17 rfl hk rfl
theorem d49_63 : decode prog_1_method_10_code 63 = .ok (.iload_n 1, 1) := by decide +kernel
theorem s49_63 {v0 v2 : Value} {l1 : Int32} {st : List Value} {im : IM} {rm : RM}  : ev 49 63 [v0, .int l1, v2] st im rm = ev 49 64 [v0, .int l1, v2] (.int l1 :: st) (im) (rm) := ev_iload_n pm_m49 d49_63 rfl rfl
theorem d49_64 : decode prog_1_method_10_code 64 = .ok (.aaload, 1) := by decide +kernel
theorem s49_64 {v0 v1 v2 : Value} {a : Nat} {i : Int32} {st : List Value} {im : IM} {rm : RM} (hk : 2 ≤ kd a ∧ kd a ≤ 5) (hi : pm_in i (ln a) = true) : ev 49 64 [v0, v1, v2] (.int i :: .ref a :: st) im rm = ev 49 65 [v0, v1, v2] (pm_ro (rm a i.toNatClampNeg) :: st) (im) (rm) := ev_aald pm_m49 d49_64 hk hi rfl
theorem d49_65 : decode prog_1_method_10_code 65 = .ok (.getfield 160, 3) := by decide +kernel
theorem s49_65 {v0 v1 v2 : Value} {a : Nat} {st : List Value} {im : IM} {rm : RM} (hk : kd a = 14) : ev 49 65 [v0, v1, v2] (.ref a :: st) im rm = ev 49 68 [v0, v1, v2] (.int (im a 0) :: st) (im) (rm) := ev_getI pm_m49 d49_65 f7_160 rfl hk rfl
theorem d49_68 : decode prog_1_method_10_code 68 = .ok (.ireturn, 1) := by decide +kernel
theorem s49_68 {v0 v1 v2 : Value} {x : Int32} {im : IM} {rm : RM} : ev 49 68 [v0, v1, v2] [.int x] im rm = some (some (.int x), im, rm) := ev_ireturn pm_m49 d49_68 rfl
theorem d50_0 : decode prog_1_method_11_code 0 = .ok (.iload_n 1, 1) := by decide +kernel
theorem s50_0 {v0 v2 : Value} {l1 : Int32} {st : List Value} {im : IM} {rm : RM}  : ev 50 0 [v0, .int l1, v2] st im rm = ev 50 1 [v0, .int l1, v2] (.int l1 :: st) (im) (rm) := ev_iload_n pm_m50 d50_0 rfl rfl
theorem d50_1 : decode prog_1_method_11_code 1 = .ok (.iconst 2, 1) := by decide +kernel
theorem s50_1 {v0 v1 v2 : Value}  {st : List Value} {im : IM} {rm : RM}  : ev 50 1 [v0, v1, v2] st im rm = ev 50 2 [v0, v1, v2] (.int (nI 2) :: st) (im) (rm) := ev_iconst pm_m50 d50_1 rfl rfl
theorem d50_2 : decode prog_1_method_11_code 2 = .ok (.invokestatic 109, 3) := by decide +kernel
theorem s50_2 {v0 v1 v2 : Value} {p1 : Int32} {p2 : Int32} {im : IM} {rm : RM}  : ev 50 2 [v0, v1, v2] [.int p2, .int p1] im rm = (ev 75 0 [.int p1, .int p2] [] im rm).bind (fun r => ev 50 5 [v0, v1, v2] (r.1.toList ++ []) r.2.1 r.2.2) := ev_callS pm_m50 d50_2 (by decide) l7_109 rfl pm_m75 rfl ⟨rfl, rfl⟩ rfl rfl
theorem d50_5 : decode prog_1_method_11_code 5 = .ok (.ifCond .ne 6, 3) := by decide +kernel
theorem s50_5 {v0 v1 v2 : Value} {x : Int32} {st : List Value} {im : IM} {rm : RM} : ev 50 5 [v0, v1, v2] (.int x :: st) im rm = if x = nI 0 then ev 50 8 [v0, v1, v2] st im rm else ev 50 11 [v0, v1, pm_u] st im rm := ev_if_ne (y := 0) pm_m50 d50_5 rfl rfl rfl
theorem d50_8 : decode prog_1_method_11_code 8 = .ok (.bipush (-2), 2) := by decide +kernel
theorem s50_8 {v0 v1 v2 : Value}  {st : List Value} {im : IM} {rm : RM}  : ev 50 8 [v0, v1, v2] st im rm = ev 50 10 [v0, v1, v2] (.int ((-2 : Int32)) :: st) (im) (rm) := ev_bipush pm_m50 d50_8 rfl rfl
theorem d50_10 : decode prog_1_method_11_code 10 = .ok (.ireturn, 1) := by decide +kernel
theorem s50_10 {v0 v1 v2 : Value} {x : Int32} {im : IM} {rm : RM} : ev 50 10 [v0, v1, v2] [.int x] im rm = some (some (.int x), im, rm) := ev_ireturn pm_m50 d50_10 rfl
theorem d50_11 : decode prog_1_method_11_code 11 = .ok (.aload_n 0, 1) := by decide +kernel
theorem s50_11 {v1 v2 : Value} {l1 : Nat} {st : List Value} {im : IM} {rm : RM}  : ev 50 11 [.ref l1, v1, v2] st im rm = ev 50 12 [.ref l1, v1, v2] (.ref l1 :: st) (im) (rm) := ev_aload_n pm_m50 d50_11 rfl rfl
theorem d50_12 : decode prog_1_method_11_code 12 = .ok (.getfield 30, 3) := by decide +kernel
theorem s50_12 {v0 v1 v2 : Value} {a : Nat} {st : List Value} {im : IM} {rm : RM} (hk : kd a = 17) : ev 50 12 [v0, v1, v2] (.ref a :: st) im rm = ev 50 15 [v0, v1, v2] (pm_ro (rm a 3) :: st) (im) (rm) := ev_getR pm_m50 d50_12 f7_30 rfl hk rfl
theorem d50_15 : decode prog_1_method_11_code 15 = .ok (.aload_n 0, 1) := by decide +kernel
theorem s50_15 {v1 v2 : Value} {l1 : Nat} {st : List Value} {im : IM} {rm : RM}  : ev 50 15 [.ref l1, v1, v2] st im rm = ev 50 16 [.ref l1, v1, v2] (.ref l1 :: st) (im) (rm) := ev_aload_n pm_m50 d50_15 rfl rfl
theorem d50_16 : decode prog_1_method_11_code 16 = .ok (.getfield 76, 3) := by decide +kernel
theorem s50_16 {v0 v1 v2 : Value} {a : Nat} {st : List Value} {im : IM} {rm : RM} (hk : kd a = 17) : ev 50 16 [v0, v1, v2] (.ref a :: st) im rm = ev 50 19 [v0, v1, v2] (pm_ro (rm a 12) :: st) (im) (rm) := ev_getR pm_m50 d50_16 f7_76 rfl hk rfl
theorem d50_19 : decode prog_1_method_11_code 19 = .ok (.invokevirtual 156, 3) := by decide +kernel
theorem s50_19 {v0 v1 v2 : Value} {a : Nat} {p1 : Nat} {im : IM} {rm : RM} (hk : kd a = 16) : ev 50 19 [v0, v1, v2] [.ref p1, .ref a] im rm = (ev 27 0 [.ref a, .ref p1, pm_u, pm_u] [] im rm).bind (fun r => ev 50 22 [v0, v1, v2] (r.1.toList ++ []) r.2.1 r.2.2) := ev_callV pm_m50 d50_19 l7_156 rfl pm_m27 (by decide) hk rfl ⟨rfl, rfl⟩ rfl rfl
theorem d50_22 : decode prog_1_method_11_code 22 = .ok (.iconst (-1), 1) := by decide +kernel
theorem s50_22 {v0 v1 v2 : Value}  {st : List Value} {im : IM} {rm : RM}  : ev 50 22 [v0, v1, v2] st im rm = ev 50 23 [v0, v1, v2] (.int ((-1 : Int32)) :: st) (im) (rm) := ev_iconst pm_m50 d50_22 rfl rfl
theorem d50_23 : decode prog_1_method_11_code 23 = .ok (.if_icmp .eq 6, 3) := by decide +kernel
theorem s50_23 {v0 v1 v2 : Value} {x : Int32} {y : Int32} {st : List Value} {im : IM} {rm : RM} : ev 50 23 [v0, v1, v2] (.int y :: .int x :: st) im rm = if x = y then ev 50 29 [v0, v1, pm_u] st im rm else ev 50 26 [v0, v1, v2] st im rm := ev_icmp_eq pm_m50 d50_23 rfl rfl rfl
theorem d50_26 : decode prog_1_method_11_code 26 = .ok (.bipush (-4), 2) := by decide +kernel
theorem s50_26 {v0 v1 v2 : Value}  {st : List Value} {im : IM} {rm : RM}  : ev 50 26 [v0, v1, v2] st im rm = ev 50 28 [v0, v1, v2] (.int ((-4 : Int32)) :: st) (im) (rm) := ev_bipush pm_m50 d50_26 rfl rfl
theorem d50_28 : decode prog_1_method_11_code 28 = .ok (.ireturn, 1) := by decide +kernel
theorem s50_28 {v0 v1 v2 : Value} {x : Int32} {im : IM} {rm : RM} : ev 50 28 [v0, v1, v2] [.int x] im rm = some (some (.int x), im, rm) := ev_ireturn pm_m50 d50_28 rfl
theorem d50_29 : decode prog_1_method_11_code 29 = .ok (.aload_n 0, 1) := by decide +kernel
theorem s50_29 {v1 v2 : Value} {l1 : Nat} {st : List Value} {im : IM} {rm : RM}  : ev 50 29 [.ref l1, v1, v2] st im rm = ev 50 30 [.ref l1, v1, v2] (.ref l1 :: st) (im) (rm) := ev_aload_n pm_m50 d50_29 rfl rfl
theorem d50_30 : decode prog_1_method_11_code 30 = .ok (.getfield 23, 3) := by decide +kernel
theorem s50_30 {v0 v1 v2 : Value} {a : Nat} {st : List Value} {im : IM} {rm : RM} (hk : kd a = 17) : ev 50 30 [v0, v1, v2] (.ref a :: st) im rm = ev 50 33 [v0, v1, v2] (pm_ro (rm a 2) :: st) (im) (rm) := ev_getR pm_m50 d50_30 f7_23 rfl hk rfl
theorem d50_33 : decode prog_1_method_11_code 33 = .ok (.iload_n 1, 1) := by decide +kernel
theorem s50_33 {v0 v2 : Value} {l1 : Int32} {st : List Value} {im : IM} {rm : RM}  : ev 50 33 [v0, .int l1, v2] st im rm = ev 50 34 [v0, .int l1, v2] (.int l1 :: st) (im) (rm) := ev_iload_n pm_m50 d50_33 rfl rfl
theorem d50_34 : decode prog_1_method_11_code 34 = .ok (.aaload, 1) := by decide +kernel
theorem s50_34 {v0 v1 v2 : Value} {a : Nat} {i : Int32} {st : List Value} {im : IM} {rm : RM} (hk : 2 ≤ kd a ∧ kd a ≤ 5) (hi : pm_in i (ln a) = true) : ev 50 34 [v0, v1, v2] (.int i :: .ref a :: st) im rm = ev 50 35 [v0, v1, v2] (pm_ro (rm a i.toNatClampNeg) :: st) (im) (rm) := ev_aald pm_m50 d50_34 hk hi rfl
theorem d50_35 : decode prog_1_method_11_code 35 = .ok (.astore_n 2, 1) := by decide +kernel
theorem s50_35 {v0 v2 : Value} {l1 : Int32} {x2 : Nat} {st : List Value} {im : IM} {rm : RM}  : ev 50 35 [v0, .int l1, v2] (.ref x2 :: st) im rm = ev 50 36 [v0, .int l1, .ref x2] st (im) (rm) := ev_astore_n pm_m50 d50_35 (Nat.le_of_ble_eq_true rfl) rfl rfl
theorem d50_36 : decode prog_1_method_11_code 36 = .ok (.aload_n 0, 1) := by decide +kernel
theorem s50_36 {v1 v2 : Value} {l1 : Nat} {st : List Value} {im : IM} {rm : RM}  : ev 50 36 [.ref l1, v1, v2] st im rm = ev 50 37 [.ref l1, v1, v2] (.ref l1 :: st) (im) (rm) := ev_aload_n pm_m50 d50_36 rfl rfl
theorem d50_37 : decode prog_1_method_11_code 37 = .ok (.getfield 23, 3) := by decide +kernel
theorem s50_37 {v0 v1 v2 : Value} {a : Nat} {st : List Value} {im : IM} {rm : RM} (hk : kd a = 17) : ev 50 37 [v0, v1, v2] (.ref a :: st) im rm = ev 50 40 [v0, v1, v2] (pm_ro (rm a 2) :: st) (im) (rm) := ev_getR pm_m50 d50_37 f7_23 rfl hk rfl
theorem d50_40 : decode prog_1_method_11_code 40 = .ok (.iload_n 1, 1) := by decide +kernel
theorem s50_40 {v0 v2 : Value} {l1 : Int32} {st : List Value} {im : IM} {rm : RM}  : ev 50 40 [v0, .int l1, v2] st im rm = ev 50 41 [v0, .int l1, v2] (.int l1 :: st) (im) (rm) := ev_iload_n pm_m50 d50_40 rfl rfl
theorem d50_41 : decode prog_1_method_11_code 41 = .ok (.aload_n 0, 1) := by decide +kernel
theorem s50_41 {v1 v2 : Value} {l1 : Nat} {st : List Value} {im : IM} {rm : RM}  : ev 50 41 [.ref l1, v1, v2] st im rm = ev 50 42 [.ref l1, v1, v2] (.ref l1 :: st) (im) (rm) := ev_aload_n pm_m50 d50_41 rfl rfl
theorem d50_42 : decode prog_1_method_11_code 42 = .ok (.getfield 76, 3) := by decide +kernel
theorem s50_42 {v0 v1 v2 : Value} {a : Nat} {st : List Value} {im : IM} {rm : RM} (hk : kd a = 17) : ev 50 42 [v0, v1, v2] (.ref a :: st) im rm = ev 50 45 [v0, v1, v2] (pm_ro (rm a 12) :: st) (im) (rm) := ev_getR pm_m50 d50_42 f7_76 rfl hk rfl
theorem d50_45 : decode prog_1_method_11_code 45 = .ok (.aastore, 1) := by decide +kernel
theorem s50_45 {v0 v1 v2 : Value} {a : Nat} {b : Nat} {i : Int32} {st : List Value} {im : IM} {rm : RM} (hk : 2 ≤ kd a ∧ kd a ≤ 4) (hi : pm_in i (ln a) = true) (hb : kd b = 10 + pm_comp (kd a)) : ev 50 45 [v0, v1, v2] (.ref b :: .int i :: .ref a :: st) im rm = ev 50 46 [v0, v1, v2] st (im) (pm_w2 rm a i.toNatClampNeg (some b)) := ev_aast pm_m50 d50_45 hk hi hb rfl
theorem d50_46 : decode prog_1_method_11_code 46 = .ok (.aload_n 0, 1) := by decide +kernel
theorem s50_46 {v1 v2 : Value} {l1 : Nat} {st : List Value} {im : IM} {rm : RM}  : ev 50 46 [.ref l1, v1, v2] st im rm = ev 50 47 [.ref l1, v1, v2] (.ref l1 :: st) (im) (rm) := ev_aload_n pm_m50 d50_46 rfl rfl
theorem d50_47 : decode prog_1_method_11_code 47 = .ok (.aload_n 2, 1) := by decide +kernel
theorem s50_47 {v0 v1 : Value} {l1 : Nat} {st : List Value} {im : IM} {rm : RM}  : ev 50 47 [v0, v1, .ref l1] st im rm = ev 50 48 [v0, v1, .ref l1] (.ref l1 :: st) (im) (rm) := ev_aload_n pm_m50 d50_47 rfl rfl
theorem d50_48 : decode prog_1_method_11_code 48 = .ok (.putfield 76, 3) := by decide +kernel
theorem s50_48 {v0 v1 v2 : Value} {a : Nat} {b : Nat} {st : List Value} {im : IM} {rm : RM} (hk : kd a = 17) : ev 50 48 [v0, v1, v2] (.ref b :: .ref a :: st) im rm = ev 50 51 [v0, v1, v2] st (im) (pm_w2 rm a 12 (some b)) := ev_putR pm_m50 d50_48 f7_76 rfl rfl hk rfl
theorem d50_51 : decode prog_1_method_11_code 51 = .ok (.aload_n 0, 1) := by decide +kernel
theorem s50_51 {v1 v2 : Value} {l1 : Nat} {st : List Value} {im : IM} {rm : RM}  : ev 50 51 [.ref l1, v1, v2] st im rm = ev 50 52 [.ref l1, v1, v2] (.ref l1 :: st) (im) (rm) := ev_aload_n pm_m50 d50_51 rfl rfl
theorem d50_52 : decode prog_1_method_11_code 52 = .ok (.getfield 30, 3) := by decide +kernel
theorem s50_52 {v0 v1 v2 : Value} {a : Nat} {st : List Value} {im : IM} {rm : RM} (hk : kd a = 17) : ev 50 52 [v0, v1, v2] (.ref a :: st) im rm = ev 50 55 [v0, v1, v2] (pm_ro (rm a 3) :: st) (im) (rm) := ev_getR pm_m50 d50_52 f7_30 rfl hk rfl
theorem d50_55 : decode prog_1_method_11_code 55 = .ok (.iconst 0, 1) := by decide +kernel
theorem s50_55 {v0 v1 v2 : Value}  {st : List Value} {im : IM} {rm : RM}  : ev 50 55 [v0, v1, v2] st im rm = ev 50 56 [v0, v1, v2] (.int (nI 0) :: st) (im) (rm) := ev_iconst pm_m50 d50_55 rfl rfl
theorem d50_56 : decode prog_1_method_11_code 56 = .ok (.putfield 148, 3) := by decide +kernel
theorem s50_56 {v0 v1 v2 : Value} {a : Nat} {v : Int32} {st : List Value} {im : IM} {rm : RM} (hk : kd a = 16) : ev 50 56 [v0, v1, v2] (.int v :: .ref a :: st) im rm = ev 50 59 [v0, v1, v2] st (pm_w2 im a 0 v) (rm) := ev_putI pm_m50 d50_56 f7_148 rfl rfl hk rfl
theorem d50_59 : decode prog_1_method_11_code 59 = .ok (.aload_n 0, 1) := by decide +kernel
theorem s50_59 {v1 v2 : Value} {l1 : Nat} {st : List Value} {im : IM} {rm : RM}  : ev 50 59 [.ref l1, v1, v2] st im rm = ev 50 60 [.ref l1, v1, v2] (.ref l1 :: st) (im) (rm) := ev_aload_n pm_m50 d50_59 rfl rfl
theorem d50_60 : decode prog_1_method_11_code 60 = .ok (.getfield 23, 3) := by decide +kernel
theorem s50_60 {v0 v1 v2 : Value} {a : Nat} {st : List Value} {im : IM} {rm : RM} (hk : kd a = 17) : ev 50 60 [v0, v1, v2] (.ref a :: st) im rm = ev 50 63 [v0, v1, v2] (pm_ro (rm a 2) :: st) (im) (rm) := ev_getR pm_m50 d50_60 f7_23 rfl hk rfl
theorem d50_63 : decode prog_1_method_11_code 63 = .ok (.iload_n 1, 1) := by decide +kernel
theorem s50_63 {v0 v2 : Value} {l1 : Int32} {st : List Value} {im : IM} {rm : RM}  : ev 50 63 [v0, .int l1, v2] st im rm = ev 50 64 [v0, .int l1, v2] (.int l1 :: st) (im) (rm) := ev_iload_n pm_m50 d50_63 rfl rfl
theorem d50_64 : decode prog_1_method_11_code 64 = .ok (.aaload, 1) := by decide +kernel
theorem s50_64 {v0 v1 v2 : Value} {a : Nat} {i : Int32} {st : List Value} {im : IM} {rm : RM} (hk : 2 ≤ kd a ∧ kd a ≤ 5) (hi : pm_in i (ln a) = true) : ev 50 64 [v0, v1, v2] (.int i :: .ref a :: st) im rm = ev 50 65 [v0, v1, v2] (pm_ro (rm a i.toNatClampNeg) :: st) (im) (rm) := ev_aald pm_m50 d50_64 hk hi rfl
theorem d50_65 : decode prog_1_method_11_code 65 = .ok (.getfield 163, 3) := by decide +kernel
theorem s50_65 {v0 v1 v2 : Value} {a : Nat} {st : List Value} {im : IM} {rm : RM} (hk : kd a = 11) : ev 50 65 [v0, v1, v2] (.ref a :: st) im rm = ev 50 68 [v0, v1, v2] (.int (im a 0) :: st) (im) (rm) := ev_getI pm_m50 d50_65 f7_163 rfl hk rfl
theorem d50_68 : decode prog_1_method_11_code 68 = .ok (.ireturn, 1) := by decide +kernel
theorem s50_68 {v0 v1 v2 : Value} {x : Int32} {im : IM} {rm : RM} : ev 50 68 [v0, v1, v2] [.int x] im rm = some (some (.int x), im, rm) := ev_ireturn pm_m50 d50_68 rfl
theorem d51_0 : decode prog_1_method_12_code 0 = .ok (.iload_n 1, 1) := by decide +kernel
theorem s51_0 {v0 v2 v3 v4 : Value} {l1 : Int32} {st : List Value} {im : IM} {rm : RM}  : ev 51 0 [v0, .int l1, v2, v3, v4] st im rm = ev 51 1 [v0, .int l1, v2, v3, v4] (.int l1 :: st) (im) (rm) := ev_iload_n pm_m51 d51_0 rfl rfl
theorem d51_1 : decode prog_1_method_12_code 1 = .ok (.iconst 4, 1) := by decide +kernel
theorem s51_1 {v0 v1 v2 v3 v4 : Value}  {st : List Value} {im : IM} {rm : RM}  : ev 51 1 [v0, v1, v2, v3, v4] st im rm = ev 51 2 [v0, v1, v2, v3, v4] (.int (nI 4) :: st) (im) (rm) := ev_iconst pm_m51 d51_1 rfl rfl
theorem d51_2 : decode prog_1_method_12_code 2 = .ok (.invokestatic 109, 3) := by decide +kernel
theorem s51_2 {v0 v1 v2 v3 v4 : Value} {p1 : Int32} {p2 : Int32} {im : IM} {rm : RM}  : ev 51 2 [v0, v1, v2, v3, v4] [.int p2, .int p1] im rm = (ev 75 0 [.int p1, .int p2] [] im rm).bind (fun r => ev 51 5 [v0, v1, v2, v3, v4] (r.1.toList ++ []) r.2.1 r.2.2) := ev_callS pm_m51 d51_2 (by decide) l7_109 rfl pm_m75 rfl ⟨rfl, rfl⟩ rfl rfl
theorem d51_5 : decode prog_1_method_12_code 5 = .ok (.ifCond .eq 12, 3) := by decide +kernel
theorem s51_5 {v0 v1 v2 v3 v4 : Value} {x : Int32} {st : List Value} {im : IM} {rm : RM} : ev 51 5 [v0, v1, v2, v3, v4] (.int x :: st) im rm = if x = nI 0 then ev 51 17 [pm_u, pm_u, pm_u, pm_u, pm_u] st im rm else ev 51 8 [v0, v1, v2, v3, v4] st im rm := ev_if_eq (y := 0) pm_m51 d51_5 rfl rfl rfl
theorem d51_8 : decode prog_1_method_12_code 8 = .ok (.aload_n 0, 1) := by decide +kernel
theorem s51_8 {v1 v2 v3 v4 : Value} {l1 : Nat} {st : List Value} {im : IM} {rm : RM}  : ev 51 8 [.ref l1, v1, v2, v3, v4] st im rm = ev 51 9 [.ref l1, v1, v2, v3, v4] (.ref l1 :: st) (im) (rm) := ev_aload_n pm_m51 d51_8 rfl rfl
theorem d51_9 : decode prog_1_method_12_code 9 = .ok (.iload_n 2, 1) := by decide +kernel
theorem s51_9 {v0 v1 v3 v4 : Value} {l1 : Int32} {st : List Value} {im : IM} {rm : RM}  : ev 51 9 [v0, v1, .int l1, v3, v4] st im rm = ev 51 10 [v0, v1, .int l1, v3, v4] (.int l1 :: st) (im) (rm) := ev_iload_n pm_m51 d51_9 rfl rfl
theorem d51_10 : decode prog_1_method_12_code 10 = .ok (.iload_n 3, 1) := by decide +kernel
theorem s51_10 {v0 v1 v2 v4 : Value} {l1 : Int32} {st : List Value} {im : IM} {rm : RM}  : ev 51 10 [v0, v1, v2, .int l1, v4] st im rm = ev 51 11 [v0, v1, v2, .int l1, v4] (.int l1 :: st) (im) (rm) := ev_iload_n pm_m51 d51_10 rfl rfl
theorem d51_11 : decode prog_1_method_12_code 11 = .ok (.invokevirtual 141, 3) := by decide +kernel
theorem s51_11 {v0 v1 v2 v3 v4 : Value} {a : Nat} {p1 : Int32} {p2 : Int32} {im : IM} {rm : RM} (hk : kd a = 17) : ev 51 11 [v0, v1, v2, v3, v4] [.int p2, .int p1, .ref a] im rm = (ev 77 0 [.ref a, .int p1, .int p2] [] im rm).bind (fun r => ev 51 14 [v0, v1, v2, v3, v4] (r.1.toList ++ []) r.2.1 r.2.2) := ev_callV pm_m51 d51_11 l7_141 rfl pm_m77 (by decide) hk rfl ⟨rfl, rfl⟩ rfl rfl
theorem d51_14 : decode prog_1_method_12_code 14 = .ok (.ifCond .ne 6, 3) := by decide +kernel
theorem s51_14 {v0 v1 v2 v3 v4 : Value} {x : Int32} {st : List Value} {im : IM} {rm : RM} : ev 51 14 [v0, v1, v2, v3, v4] (.int x :: st) im rm = if x = nI 0 then ev 51 17 [pm_u, pm_u, pm_u, pm_u, pm_u] st im rm else ev 51 20 [v0, v1, v2, v3, v4] st im rm := ev_if_ne (y := 0) pm_m51 d51_14 rfl rfl rfl
theorem d51_17 : decode prog_1_method_12_code 17 = .ok (.bipush (-2), 2) := by decide +kernel
theorem s51_17 {v0 v1 v2 v3 v4 : Value}  {st : List Value} {im : IM} {rm : RM}  : ev 51 17 [v0, v1, v2, v3, v4] st im rm = ev 51 19 [v0, v1, v2, v3, v4] (.int ((-2 : Int32)) :: st) (im) (rm) := ev_bipush pm_m51 d51_17 rfl rfl
theorem d51_19 : decode prog_1_method_12_code 19 = .ok (.ireturn, 1) := by decide +kernel
theorem s51_19 {v0 v1 v2 v3 v4 : Value} {x : Int32} {im : IM} {rm : RM} : ev 51 19 [v0, v1, v2, v3, v4] [.int x] im rm = some (some (.int x), im, rm) := ev_ireturn pm_m51 d51_19 rfl
theorem d51_20 : decode prog_1_method_12_code 20 = .ok (.aload_n 0, 1) := by decide +kernel
theorem s51_20 {v1 v2 v3 v4 : Value} {l1 : Nat} {st : List Value} {im : IM} {rm : RM}  : ev 51 20 [.ref l1, v1, v2, v3, v4] st im rm = ev 51 21 [.ref l1, v1, v2, v3, v4] (.ref l1 :: st) (im) (rm) := ev_aload_n pm_m51 d51_20 rfl rfl
theorem d51_21 : decode prog_1_method_12_code 21 = .ok (.iload_n 1, 1) := by decide +kernel
theorem s51_21 {v0 v2 v3 v4 : Value} {l1 : Int32} {st : List Value} {im : IM} {rm : RM}  : ev 51 21 [v0, .int l1, v2, v3, v4] st im rm = ev 51 22 [v0, .int l1, v2, v3, v4] (.int l1 :: st) (im) (rm) := ev_iload_n pm_m51 d51_21 rfl rfl
theorem d51_22 : decode prog_1_method_12_code 22 = .ok (.iload_n 2, 1) := by decide +kernel
theorem s51_22 {v0 v1 v3 v4 : Value} {l1 : Int32} {st : List Value} {im : IM} {rm : RM}  : ev 51 22 [v0, v1, .int l1, v3, v4] st im rm = ev 51 23 [v0, v1, .int l1, v3, v4] (.int l1 :: st) (im) (rm) := ev_iload_n pm_m51 d51_22 rfl rfl
theorem d51_23 : decode prog_1_method_12_code 23 = .ok (.invokevirtual 164, 3) := by decide +kernel
theorem s51_23 {v0 v1 v2 v3 v4 : Value} {a : Nat} {p1 : Int32} {p2 : Int32} {im : IM} {rm : RM} (hk : kd a = 17) : ev 51 23 [v0, v1, v2, v3, v4] [.int p2, .int p1, .ref a] im rm = (ev 80 0 [.ref a, .int p1, .int p2, pm_u, pm_u, pm_u, pm_u, pm_u, pm_u, pm_u, pm_u] [] im rm).bind (fun r => ev 51 26 [v0, v1, v2, v3, v4] (r.1.toList ++ []) r.2.1 r.2.2) := ev_callV pm_m51 d51_23 l7_164 rfl pm_m80 (by decide) hk rfl ⟨rfl, rfl⟩ rfl rfl
theorem d51_26 : decode prog_1_method_12_code 26 = .ok (.iload 4, 2) := by decide +kernel
theorem s51_26 {v0 v1 v2 v3 : Value} {l1 : Int32} {st : List Value} {im : IM} {rm : RM}  : ev 51 26 [v0, v1, v2, v3, .int l1] st im rm = ev 51 28 [v0, v1, v2, v3, .int l1] (.int l1 :: st) (im) (rm) := ev_iload pm_m51 d51_26 rfl rfl
theorem d51_28 : decode prog_1_method_12_code 28 = .ok (.tableswitch 86 0 4 #[36, 46, 56, 66, 76], 36) := by decide +kernel
theorem s51_28_0 {v0 v1 v2 v3 v4 : Value}  {st : List Value} {im : IM} {rm : RM}  : ev 51 28 [v0, v1, v2, v3, v4] (.int (nI 0) :: st) im rm = ev 51 64 [v0, pm_u, pm_u, v3, pm_u] st (im) (rm) := ev_swI pm_m51 d51_28 (by decide) rfl rfl rfl
theorem s51_28_1 {v0 v1 v2 v3 v4 : Value}  {st : List Value} {im : IM} {rm : RM}  : ev 51 28 [v0, v1, v2, v3, v4] (.int (nI 1) :: st) im rm = ev 51 74 [v0, pm_u, pm_u, v3, pm_u] st (im) (rm) := ev_swI pm_m51 d51_28 (by decide) rfl rfl rfl
theorem s51_28_2 {v0 v1 v2 v3 v4 : Value}  {st : List Value} {im : IM} {rm : RM}  : ev 51 28 [v0, v1, v2, v3, v4] (.int (nI 2) :: st) im rm = ev 51 84 [v0, pm_u, pm_u, v3, pm_u] st (im) (rm) := ev_swI pm_m51 d51_28 (by decide) rfl rfl rfl
theorem s51_28_3 {v0 v1 v2 v3 v4 : Value}  {st : List Value} {im : IM} {rm : RM}  : ev 51 28 [v0, v1, v2, v3, v4] (.int (nI 3) :: st) im rm = ev 51 94 [v0, pm_u, pm_u, v3, pm_u] st (im) (rm) := ev_swI pm_m51 d51_28 (by decide) rfl rfl rfl
theorem s51_28_4 {v0 v1 v2 v3 v4 : Value}  {st : List Value} {im : IM} {rm : RM}  : ev 51 28 [v0, v1, v2, v3, v4] (.int (nI 4) :: st) im rm = ev 51 104 [v0, pm_u, pm_u, v3, pm_u] st (im) (rm) := ev_swI pm_m51 d51_28 (by decide) rfl rfl rfl
theorem s51_28_o {v0 v1 v2 v3 v4 : Value} {x : Int32} {st : List Value} {im : IM} {rm : RM} (h1 : x.toInt < 0 ∨ 4 < x.toInt) : ev 51 28 [v0, v1, v2, v3, v4] (.int x :: st) im rm = ev 51 114 [pm_u, pm_u, pm_u, pm_u, pm_u] st (im) (rm) := ev_swO pm_m51 d51_28 h1 rfl rfl
theorem d51_64 : decode prog_1_method_12_code 64 = .ok (.aload_n 0, 1) := by decide +kernel
theorem s51_64 {v1 v2 v3 v4 : Value} {l1 : Nat} {st : List Value} {im : IM} {rm : RM}  : ev 51 64 [.ref l1, v1, v2, v3, v4] st im rm = ev 51 65 [.ref l1, v1, v2, v3, v4] (.ref l1 :: st) (im) (rm) := ev_aload_n pm_m51 d51_64 rfl rfl
theorem d51_65 : decode prog_1_method_12_code 65 = .ok (.getfield 83, 3) := by decide +kernel
theorem s51_65 {v0 v1 v2 v3 v4 : Value} {a : Nat} {st : List Value} {im : IM} {rm : RM} (hk : kd a = 17) : ev 51 65 [v0, v1, v2, v3, v4] (.ref a :: st) im rm = ev 51 68 [v0, v1, v2, v3, v4] (pm_ro (rm a 13) :: st) (im) (rm) := ev_getR pm_m51 d51_65 f7_83 rfl hk rfl
theorem d51_68 : decode prog_1_method_12_code 68 = .ok (.getfield 167, 3) := by decide +kernel
theorem s51_68 {v0 v1 v2 v3 v4 : Value} {a : Nat} {st : List Value} {im : IM} {rm : RM} (hk : kd a = 13) : ev 51 68 [v0, v1, v2, v3, v4] (.ref a :: st) im rm = ev 51 71 [v0, v1, v2, v3, v4] (pm_ro (rm a 0) :: st) (im) (rm) := ev_getR pm_m51 d51_68 f7_167 rfl hk rfl
theorem d51_71 : decode prog_1_method_12_code 71 = .ok (.iload_n 3, 1) := by decide +kernel
theorem s51_71 {v0 v1 v2 v4 : Value} {l1 : Int32} {st : List Value} {im : IM} {rm : RM}  : ev 51 71 [v0, v1, v2, .int l1, v4] st im rm = ev 51 72 [v0, v1, v2, .int l1, v4] (.int l1 :: st) (im) (rm) := ev_iload_n pm_m51 d51_71 rfl rfl
theorem d51_72 : decode prog_1_method_12_code 72 = .ok (.iaload, 1) := by decide +kernel
theorem s51_72 {v0 v1 v2 v3 v4 : Value} {a : Nat} {i : Int32} {st : List Value} {im : IM} {rm : RM} (hk : kd a = 0) (hi : pm_in i (ln a) = true) : ev 51 72 [v0, v1, v2, v3, v4] (.int i :: .ref a :: st) im rm = ev 51 73 [v0, v1, v2, v3, v4] (.int (im a i.toNatClampNeg) :: st) (im) (rm) := ev_iald pm_m51 d51_72 hk hi rfl
theorem d51_73 : decode prog_1_method_12_code 73 = .ok (.ireturn, 1) := by decide +kernel
theorem s51_73 {v0 v1 v2 v3 v4 : Value} {x : Int32} {im : IM} {rm : RM} : ev 51 73 [v0, v1, v2, v3, v4] [.int x] im rm = some (some (.int x), im, rm) := ev_ireturn pm_m51 d51_73 rfl
theorem d51_74 : decode prog_1_method_12_code 74 = .ok (.aload_n 0, 1) := by decide +kernel
theorem s51_74 {v1 v2 v3 v4 : Value} {l1 : Nat} {st : List Value} {im : IM} {rm : RM}  : ev 51 74 [.ref l1, v1, v2, v3, v4] st im rm = ev 51 75 [.ref l1, v1, v2, v3, v4] (.ref l1 :: st) (im) (rm) := ev_aload_n pm_m51 d51_74 rfl rfl
theorem d51_75 : decode prog_1_method_12_code 75 = .ok (.getfield 83, 3) := by decide +kernel
theorem s51_75 {v0 v1 v2 v3 v4 : Value} {a : Nat} {st : List Value} {im : IM} {rm : RM} (hk : kd a = 17) : ev 51 75 [v0, v1, v2, v3, v4] (.ref a :: st) im rm = ev 51 78 [v0, v1, v2, v3, v4] (pm_ro (rm a 13) :: st) (im) (rm) := ev_getR pm_m51 d51_75 f7_83 rfl hk rfl
theorem d51_78 : decode prog_1_method_12_code 78 = .ok (.getfield 170, 3) := by decide +kernel
theorem s51_78 {v0 v1 v2 v3 v4 : Value} {a : Nat} {st : List Value} {im : IM} {rm : RM} (hk : kd a = 13) : ev 51 78 [v0, v1, v2, v3, v4] (.ref a :: st) im rm = ev 51 81 [v0, v1, v2, v3, v4] (pm_ro (rm a 1) :: st) (im) (rm) := ev_getR pm_m51 d51_78 f7_170 rfl hk rfl
theorem d51_81 : decode prog_1_method_12_code 81 = .ok (.iload_n 3, 1) := by decide +kernel
theorem s51_81 {v0 v1 v2 v4 : Value} {l1 : Int32} {st : List Value} {im : IM} {rm : RM}  : ev 51 81 [v0, v1, v2, .int l1, v4] st im rm = ev 51 82 [v0, v1, v2, .int l1, v4] (.int l1 :: st) (im) (rm) := ev_iload_n pm_m51 d51_81 rfl rfl
theorem d51_82 : decode prog_1_method_12_code 82 = .ok (.iaload, 1) := by decide +kernel
theorem s51_82 {v0 v1 v2 v3 v4 : Value} {a : Nat} {i : Int32} {st : List Value} {im : IM} {rm : RM} (hk : kd a = 0) (hi : pm_in i (ln a) = true) : ev 51 82 [v0, v1, v2, v3, v4] (.int i :: .ref a :: st) im rm = ev 51 83 [v0, v1, v2, v3, v4] (.int (im a i.toNatClampNeg) :: st) (im) (rm) := ev_iald pm_m51 d51_82 hk hi rfl
theorem d51_83 : decode prog_1_method_12_code 83 = .ok (.ireturn, 1) := by decide +kernel
theorem s51_83 {v0 v1 v2 v3 v4 : Value} {x : Int32} {im : IM} {rm : RM} : ev 51 83 [v0, v1, v2, v3, v4] [.int x] im rm = some (some (.int x), im, rm) := ev_ireturn pm_m51 d51_83 rfl
theorem d51_84 : decode prog_1_method_12_code 84 = .ok (.aload_n 0, 1) := by decide +kernel
theorem s51_84 {v1 v2 v3 v4 : Value} {l1 : Nat} {st : List Value} {im : IM} {rm : RM}  : ev 51 84 [.ref l1, v1, v2, v3, v4] st im rm = ev 51 85 [.ref l1, v1, v2, v3, v4] (.ref l1 :: st) (im) (rm) := ev_aload_n pm_m51 d51_84 rfl rfl
theorem d51_85 : decode prog_1_method_12_code 85 = .ok (.getfield 83, 3) := by decide +kernel
theorem s51_85 {v0 v1 v2 v3 v4 : Value} {a : Nat} {st : List Value} {im : IM} {rm : RM} (hk : kd a = 17) : ev 51 85 [v0, v1, v2, v3, v4] (.ref a :: st) im rm = ev 51 88 [v0, v1, v2, v3, v4] (pm_ro (rm a 13) :: st) (im) (rm) := ev_getR pm_m51 d51_85 f7_83 rfl hk rfl
theorem d51_88 : decode prog_1_method_12_code 88 = .ok (.getfield 173, 3) := by decide +kernel
theorem s51_88 {v0 v1 v2 v3 v4 : Value} {a : Nat} {st : List Value} {im : IM} {rm : RM} (hk : kd a = 13) : ev 51 88 [v0, v1, v2, v3, v4] (.ref a :: st) im rm = ev 51 91 [v0, v1, v2, v3, v4] (pm_ro (rm a 2) :: st) (im) (rm) := ev_getR pm_m51 d51_88 f7_173 rfl hk rfl
theorem d51_91 : decode prog_1_method_12_code 91 = .ok (.iload_n 3, 1) := by decide +kernel
theorem s51_91 {v0 v1 v2 v4 : Value} {l1 : Int32} {st : List Value} {im : IM} {rm : RM}  : ev 51 91 [v0, v1, v2, .int l1, v4] st im rm = ev 51 92 [v0, v1, v2, .int l1, v4] (.int l1 :: st) (im) (rm) := ev_iload_n pm_m51 d51_91 rfl rfl
theorem d51_92 : decode prog_1_method_12_code 92 = .ok (.iaload, 1) := by decide +kernel
theorem s51_92 {v0 v1 v2 v3 v4 : Value} {a : Nat} {i : Int32} {st : List Value} {im : IM} {rm : RM} (hk : kd a = 0) (hi : pm_in i (ln a) = true) : ev 51 92 [v0, v1, v2, v3, v4] (.int i :: .ref a :: st) im rm = ev 51 93 [v0, v1, v2, v3, v4] (.int (im a i.toNatClampNeg) :: st) (im) (rm) := ev_iald pm_m51 d51_92 hk hi rfl
theorem d51_93 : decode prog_1_method_12_code 93 = .ok (.ireturn, 1) := by decide +kernel
theorem s51_93 {v0 v1 v2 v3 v4 : Value} {x : Int32} {im : IM} {rm : RM} : ev 51 93 [v0, v1, v2, v3, v4] [.int x] im rm = some (some (.int x), im, rm) := ev_ireturn pm_m51 d51_93 rfl
theorem d51_94 : decode prog_1_method_12_code 94 = .ok (.aload_n 0, 1) := by decide +kernel
theorem s51_94 {v1 v2 v3 v4 : Value} {l1 : Nat} {st : List Value} {im : IM} {rm : RM}  : ev 51 94 [.ref l1, v1, v2, v3, v4] st im rm = ev 51 95 [.ref l1, v1, v2, v3, v4] (.ref l1 :: st) (im) (rm) := ev_aload_n pm_m51 d51_94 rfl rfl
theorem d51_95 : decode prog_1_method_12_code 95 = .ok (.getfield 83, 3) := by decide +kernel
theorem s51_95 {v0 v1 v2 v3 v4 : Value} {a : Nat} {st : List Value} {im : IM} {rm : RM} (hk : kd a = 17) : ev 51 95 [v0, v1, v2, v3, v4] (.ref a :: st) im rm = ev 51 98 [v0, v1, v2, v3, v4] (pm_ro (rm a 13) :: st) (im) (rm) := ev_getR pm_m51 d51_95 f7_83 rfl hk rfl
theorem d51_98 : decode prog_1_method_12_code 98 = .ok (.getfield 176, 3) := by decide +kernel
theorem s51_98 {v0 v1 v2 v3 v4 : Value} {a : Nat} {st : List Value} {im : IM} {rm : RM} (hk : kd a = 13) : ev 51 98 [v0, v1, v2, v3, v4] (.ref a :: st) im rm = ev 51 101 [v0, v1, v2, v3, v4] (pm_ro (rm a 3) :: st) (im) (rm) := ev_getR pm_m51 d51_98 f7_176 rfl hk rfl
theorem d51_101 : decode prog_1_method_12_code 101 = .ok (.iload_n 3, 1) := by decide +kernel
theorem s51_101 {v0 v1 v2 v4 : Value} {l1 : Int32} {st : List Value} {im : IM} {rm : RM}  : ev 51 101 [v0, v1, v2, .int l1, v4] st im rm = ev 51 102 [v0, v1, v2, .int l1, v4] (.int l1 :: st) (im) (rm) := ev_iload_n pm_m51 d51_101 rfl rfl
theorem d51_102 : decode prog_1_method_12_code 102 = .ok (.iaload, 1) := by decide +kernel
theorem s51_102 {v0 v1 v2 v3 v4 : Value} {a : Nat} {i : Int32} {st : List Value} {im : IM} {rm : RM} (hk : kd a = 0) (hi : pm_in i (ln a) = true) : ev 51 102 [v0, v1, v2, v3, v4] (.int i :: .ref a :: st) im rm = ev 51 103 [v0, v1, v2, v3, v4] (.int (im a i.toNatClampNeg) :: st) (im) (rm) := ev_iald pm_m51 d51_102 hk hi rfl
theorem d51_103 : decode prog_1_method_12_code 103 = .ok (.ireturn, 1) := by decide +kernel
theorem s51_103 {v0 v1 v2 v3 v4 : Value} {x : Int32} {im : IM} {rm : RM} : ev 51 103 [v0, v1, v2, v3, v4] [.int x] im rm = some (some (.int x), im, rm) := ev_ireturn pm_m51 d51_103 rfl
theorem d51_104 : decode prog_1_method_12_code 104 = .ok (.aload_n 0, 1) := by decide +kernel
theorem s51_104 {v1 v2 v3 v4 : Value} {l1 : Nat} {st : List Value} {im : IM} {rm : RM}  : ev 51 104 [.ref l1, v1, v2, v3, v4] st im rm = ev 51 105 [.ref l1, v1, v2, v3, v4] (.ref l1 :: st) (im) (rm) := ev_aload_n pm_m51 d51_104 rfl rfl
theorem d51_105 : decode prog_1_method_12_code 105 = .ok (.getfield 83, 3) := by decide +kernel
theorem s51_105 {v0 v1 v2 v3 v4 : Value} {a : Nat} {st : List Value} {im : IM} {rm : RM} (hk : kd a = 17) : ev 51 105 [v0, v1, v2, v3, v4] (.ref a :: st) im rm = ev 51 108 [v0, v1, v2, v3, v4] (pm_ro (rm a 13) :: st) (im) (rm) := ev_getR pm_m51 d51_105 f7_83 rfl hk rfl
theorem d51_108 : decode prog_1_method_12_code 108 = .ok (.getfield 179, 3) := by decide +kernel
theorem s51_108 {v0 v1 v2 v3 v4 : Value} {a : Nat} {st : List Value} {im : IM} {rm : RM} (hk : kd a = 13) : ev 51 108 [v0, v1, v2, v3, v4] (.ref a :: st) im rm = ev 51 111 [v0, v1, v2, v3, v4] (pm_ro (rm a 4) :: st) (im) (rm) := ev_getR pm_m51 d51_108 f7_179 rfl hk rfl
theorem d51_111 : decode prog_1_method_12_code 111 = .ok (.iload_n 3, 1) := by decide +kernel
theorem s51_111 {v0 v1 v2 v4 : Value} {l1 : Int32} {st : List Value} {im : IM} {rm : RM}  : ev 51 111 [v0, v1, v2, .int l1, v4] st im rm = ev 51 112 [v0, v1, v2, .int l1, v4] (.int l1 :: st) (im) (rm) := ev_iload_n pm_m51 d51_111 rfl rfl
theorem d51_112 : decode prog_1_method_12_code 112 = .ok (.iaload, 1) := by decide +kernel
theorem s51_112 {v0 v1 v2 v3 v4 : Value} {a : Nat} {i : Int32} {st : List Value} {im : IM} {rm : RM} (hk : kd a = 0) (hi : pm_in i (ln a) = true) : ev 51 112 [v0, v1, v2, v3, v4] (.int i :: .ref a :: st) im rm = ev 51 113 [v0, v1, v2, v3, v4] (.int (im a i.toNatClampNeg) :: st) (im) (rm) := ev_iald pm_m51 d51_112 hk hi rfl
theorem d51_113 : decode prog_1_method_12_code 113 = .ok (.ireturn, 1) := by decide +kernel
theorem s51_113 {v0 v1 v2 v3 v4 : Value} {x : Int32} {im : IM} {rm : RM} : ev 51 113 [v0, v1, v2, v3, v4] [.int x] im rm = some (some (.int x), im, rm) := ev_ireturn pm_m51 d51_113 rfl
theorem d51_114 : decode prog_1_method_12_code 114 = .ok (.bipush (-3), 2) := by decide +kernel
theorem s51_114 {v0 v1 v2 v3 v4 : Value}  {st : List Value} {im : IM} {rm : RM}  : ev 51 114 [v0, v1, v2, v3, v4] st im rm = ev 51 116 [v0, v1, v2, v3, v4] (.int ((-3 : Int32)) :: st) (im) (rm) := ev_bipush pm_m51 d51_114 rfl rfl
theorem d51_116 : decode prog_1_method_12_code 116 = .ok (.ireturn, 1) := by decide +kernel
theorem s51_116 {v0 v1 v2 v3 v4 : Value} {x : Int32} {im : IM} {rm : RM} : ev 51 116 [v0, v1, v2, v3, v4] [.int x] im rm = some (some (.int x), im, rm) := ev_ireturn pm_m51 d51_116 rfl
theorem d52_0 : decode prog_1_method_13_code 0 = .ok (.iload_n 1, 1) := by decide +kernel
theorem s52_0 {v0 v2 v3 : Value} {l1 : Int32} {st : List Value} {im : IM} {rm : RM}  : ev 52 0 [v0, .int l1, v2, v3] st im rm = ev 52 1 [v0, .int l1, v2, v3] (.int l1 :: st) (im) (rm) := ev_iload_n pm_m52 d52_0 rfl rfl
theorem d52_1 : decode prog_1_method_13_code 1 = .ok (.iconst 4, 1) := by decide +kernel
theorem s52_1 {v0 v1 v2 v3 : Value}  {st : List Value} {im : IM} {rm : RM}  : ev 52 1 [v0, v1, v2, v3] st im rm = ev 52 2 [v0, v1, v2, v3] (.int (nI 4) :: st) (im) (rm) := ev_iconst pm_m52 d52_1 rfl rfl
theorem d52_2 : decode prog_1_method_13_code 2 = .ok (.invokestatic 109, 3) := by decide +kernel
theorem s52_2 {v0 v1 v2 v3 : Value} {p1 : Int32} {p2 : Int32} {im : IM} {rm : RM}  : ev 52 2 [v0, v1, v2, v3] [.int p2, .int p1] im rm = (ev 75 0 [.int p1, .int p2] [] im rm).bind (fun r => ev 52 5 [v0, v1, v2, v3] (r.1.toList ++ []) r.2.1 r.2.2) := ev_callS pm_m52 d52_2 (by decide) l7_109 rfl pm_m75 rfl ⟨rfl, rfl⟩ rfl rfl
theorem d52_5 : decode prog_1_method_13_code 5 = .ok (.ifCond .eq 12, 3) := by decide +kernel
theorem s52_5 {v0 v1 v2 v3 : Value} {x : Int32} {st : List Value} {im : IM} {rm : RM} : ev 52 5 [v0, v1, v2, v3] (.int x :: st) im rm = if x = nI 0 then ev 52 17 [pm_u, pm_u, pm_u, pm_u] st im rm else ev 52 8 [v0, v1, v2, v3] st im rm := ev_if_eq (y := 0) pm_m52 d52_5 rfl rfl rfl
theorem d52_8 : decode prog_1_method_13_code 8 = .ok (.iload_n 2, 1) := by decide +kernel
theorem s52_8 {v0 v1 v3 : Value} {l1 : Int32} {st : List Value} {im : IM} {rm : RM}  : ev 52 8 [v0, v1, .int l1, v3] st im rm = ev 52 9 [v0, v1, .int l1, v3] (.int l1 :: st) (im) (rm) := ev_iload_n pm_m52 d52_8 rfl rfl
theorem d52_9 : decode prog_1_method_13_code 9 = .ok (.bipush 6, 2) := by decide +kernel
theorem s52_9 {v0 v1 v2 v3 : Value}  {st : List Value} {im : IM} {rm : RM}  : ev 52 9 [v0, v1, v2, v3] st im rm = ev 52 11 [v0, v1, v2, v3] (.int (nI 6) :: st) (im) (rm) := ev_bipush pm_m52 d52_9 rfl rfl
theorem d52_11 : decode prog_1_method_13_code 11 = .ok (.invokestatic 109, 3) := by decide +kernel
theorem s52_11 {v0 v1 v2 v3 : Value} {p1 : Int32} {p2 : Int32} {im : IM} {rm : RM}  : ev 52 11 [v0, v1, v2, v3] [.int p2, .int p1] im rm = (ev 75 0 [.int p1, .int p2] [] im rm).bind (fun r => ev 52 14 [v0, v1, v2, v3] (r.1.toList ++ []) r.2.1 r.2.2) := ev_callS pm_m52 d52_11 (by decide) l7_109 rfl pm_m75 rfl ⟨rfl, rfl⟩ rfl rfl
theorem d52_14 : decode prog_1_method_13_code 14 = .ok (.ifCond .ne 6, 3) := by decide +kernel
theorem s52_14 {v0 v1 v2 v3 : Value} {x : Int32} {st : List Value} {im : IM} {rm : RM} : ev 52 14 [v0, v1, v2, v3] (.int x :: st) im rm = if x = nI 0 then ev 52 17 [pm_u, pm_u, pm_u, pm_u] st im rm else ev 52 20 [v0, v1, v2, v3] st im rm := ev_if_ne (y := 0) pm_m52 d52_14 rfl rfl rfl
theorem d52_17 : decode prog_1_method_13_code 17 = .ok (.bipush (-2), 2) := by decide +kernel
theorem s52_17 {v0 v1 v2 v3 : Value}  {st : List Value} {im : IM} {rm : RM}  : ev 52 17 [v0, v1, v2, v3] st im rm = ev 52 19 [v0, v1, v2, v3] (.int ((-2 : Int32)) :: st) (im) (rm) := ev_bipush pm_m52 d52_17 rfl rfl
theorem d52_19 : decode prog_1_method_13_code 19 = .ok (.ireturn, 1) := by decide +kernel
theorem s52_19 {v0 v1 v2 v3 : Value} {x : Int32} {im : IM} {rm : RM} : ev 52 19 [v0, v1, v2, v3] [.int x] im rm = some (some (.int x), im, rm) := ev_ireturn pm_m52 d52_19 rfl
theorem d52_20 : decode prog_1_method_13_code 20 = .ok (.aload_n 0, 1) := by decide +kernel
theorem s52_20 {v1 v2 v3 : Value} {l1 : Nat} {st : List Value} {im : IM} {rm : RM}  : ev 52 20 [.ref l1, v1, v2, v3] st im rm = ev 52 21 [.ref l1, v1, v2, v3] (.ref l1 :: st) (im) (rm) := ev_aload_n pm_m52 d52_20 rfl rfl
theorem d52_21 : decode prog_1_method_13_code 21 = .ok (.iload_n 1, 1) := by decide +kernel
theorem s52_21 {v0 v2 v3 : Value} {l1 : Int32} {st : List Value} {im : IM} {rm : RM}  : ev 52 21 [v0, .int l1, v2, v3] st im rm = ev 52 22 [v0, .int l1, v2, v3] (.int l1 :: st) (im) (rm) := ev_iload_n pm_m52 d52_21 rfl rfl
theorem d52_22 : decode prog_1_method_13_code 22 = .ok (.iload_n 2, 1) := by decide +kernel
theorem s52_22 {v0 v1 v3 : Value} {l1 : Int32} {st : List Value} {im : IM} {rm : RM}  : ev 52 22 [v0, v1, .int l1, v3] st im rm = ev 52 23 [v0, v1, .int l1, v3] (.int l1 :: st) (im) (rm) := ev_iload_n pm_m52 d52_22 rfl rfl
theorem d52_23 : decode prog_1_method_13_code 23 = .ok (.invokevirtual 164, 3) := by decide +kernel
theorem s52_23 {v0 v1 v2 v3 : Value} {a : Nat} {p1 : Int32} {p2 : Int32} {im : IM} {rm : RM} (hk : kd a = 17) : ev 52 23 [v0, v1, v2, v3] [.int p2, .int p1, .ref a] im rm = (ev 80 0 [.ref a, .int p1, .int p2, pm_u, pm_u, pm_u, pm_u, pm_u, pm_u, pm_u, pm_u] [] im rm).bind (fun r => ev 52 26 [v0, v1, v2, v3] (r.1.toList ++ []) r.2.1 r.2.2) := ev_callV pm_m52 d52_23 l7_164 rfl pm_m80 (by decide) hk rfl ⟨rfl, rfl⟩ rfl rfl
theorem d52_26 : decode prog_1_method_13_code 26 = .ok (.iload_n 3, 1) := by decide +kernel
theorem s52_26 {v0 v1 v2 : Value} {l1 : Int32} {st : List Value} {im : IM} {rm : RM}  : ev 52 26 [v0, v1, v2, .int l1] st im rm = ev 52 27 [v0, v1, v2, .int l1] (.int l1 :: st) (im) (rm) := ev_iload_n pm_m52 d52_26 rfl rfl
theorem d52_27 : decode prog_1_method_13_code 27 = .ok (.tableswitch 61 2 5 #[29, 37, 45, 53], 29) := by decide +kernel
theorem s52_27_2 {v0 v1 v2 v3 : Value}  {st : List Value} {im : IM} {rm : RM}  : ev 52 27 [v0, v1, v2, v3] (.int (nI 2) :: st) im rm = ev 52 56 [v0, pm_u, pm_u, pm_u] st (im) (rm) := ev_swI pm_m52 d52_27 (by decide) rfl rfl rfl
theorem s52_27_3 {v0 v1 v2 v3 : Value}  {st : List Value} {im : IM} {rm : RM}  : ev 52 27 [v0, v1, v2, v3] (.int (nI 3) :: st) im rm = ev 52 64 [v0, pm_u, pm_u, pm_u] st (im) (rm) := ev_swI pm_m52 d52_27 (by decide) rfl rfl rfl
theorem s52_27_4 {v0 v1 v2 v3 : Value}  {st : List Value} {im : IM} {rm : RM}  : ev 52 27 [v0, v1, v2, v3] (.int (nI 4) :: st) im rm = ev 52 72 [v0, pm_u, pm_u, pm_u] st (im) (rm) := ev_swI pm_m52 d52_27 (by decide) rfl rfl rfl
theorem s52_27_5 {v0 v1 v2 v3 : Value}  {st : List Value} {im : IM} {rm : RM}  : ev 52 27 [v0, v1, v2, v3] (.int (nI 5) :: st) im rm = ev 52 80 [v0, pm_u, pm_u, pm_u] st (im) (rm) := ev_swI pm_m52 d52_27 (by decide) rfl rfl rfl
theorem s52_27_o {v0 v1 v2 v3 : Value} {x : Int32} {st : List Value} {im : IM} {rm : RM} (h1 : x.toInt < 2 ∨ 5 < x.toInt) : ev 52 27 [v0, v1, v2, v3] (.int x :: st) im rm = ev 52 88 [pm_u, pm_u, pm_u, pm_u] st (im) (rm) := ev_swO pm_m52 d52_27 h1 rfl rfl
theorem d52_56 : decode prog_1_method_13_code 56 = .ok (.aload_n 0, 1) := by decide +kernel
theorem s52_56 {v1 v2 v3 : Value} {l1 : Nat} {st : List Value} {im : IM} {rm : RM}  : ev 52 56 [.ref l1, v1, v2, v3] st im rm = ev 52 57 [.ref l1, v1, v2, v3] (.ref l1 :: st) (im) (rm) := ev_aload_n pm_m52 d52_56 rfl rfl
theorem d52_57 : decode prog_1_method_13_code 57 = .ok (.getfield 83, 3) := by decide +kernel
theorem s52_57 {v0 v1 v2 v3 : Value} {a : Nat} {st : List Value} {im : IM} {rm : RM} (hk : kd a = 17) : ev 52 57 [v0, v1, v2, v3] (.ref a :: st) im rm = ev 52 60 [v0, v1, v2, v3] (pm_ro (rm a 13) :: st) (im) (rm) := ev_getR pm_m52 d52_57 f7_83 rfl hk rfl
theorem d52_60 : decode prog_1_method_13_code 60 = .ok (.getfield 182, 3) := by decide +kernel
theorem s52_60 {v0 v1 v2 v3 : Value} {a : Nat} {st : List Value} {im : IM} {rm : RM} (hk : kd a = 13) : ev 52 60 [v0, v1, v2, v3] (.ref a :: st) im rm = ev 52 63 [v0, v1, v2, v3] (.int (im a 5) :: st) (im) (rm) := ev_getI pm_m52 d52_60 f7_182 rfl hk rfl
theorem d52_63 : decode prog_1_method_13_code 63 = .ok (.ireturn, 1) := by decide +kernel
theorem s52_63 {v0 v1 v2 v3 : Value} {x : Int32} {im : IM} {rm : RM} : ev 52 63 [v0, v1, v2, v3] [.int x] im rm = some (some (.int x), im, rm) := ev_ireturn pm_m52 d52_63 rfl
theorem d52_64 : decode prog_1_method_13_code 64 = .ok (.aload_n 0, 1) := by decide +kernel
theorem s52_64 {v1 v2 v3 : Value} {l1 : Nat} {st : List Value} {im : IM} {rm : RM}  : ev 52 64 [.ref l1, v1, v2, v3] st im rm = ev 52 65 [.ref l1, v1, v2, v3] (.ref l1 :: st) (im) (rm) := ev_aload_n pm_m52 d52_64 rfl rfl
theorem d52_65 : decode prog_1_method_13_code 65 = .ok (.getfield 83, 3) := by decide +kernel
theorem s52_65 {v0 v1 v2 v3 : Value} {a : Nat} {st : List Value} {im : IM} {rm : RM} (hk : kd a = 17) : ev 52 65 [v0, v1, v2, v3] (.ref a :: st) im rm = ev 52 68 [v0, v1, v2, v3] (pm_ro (rm a 13) :: st) (im) (rm) := ev_getR pm_m52 d52_65 f7_83 rfl hk rfl
theorem d52_68 : decode prog_1_method_13_code 68 = .ok (.getfield 185, 3) := by decide +kernel
theorem s52_68 {v0 v1 v2 v3 : Value} {a : Nat} {st : List Value} {im : IM} {rm : RM} (hk : kd a = 13) : ev 52 68 [v0, v1, v2, v3] (.ref a :: st) im rm = ev 52 71 [v0, v1, v2, v3] (.int (im a 6) :: st) (im) (rm) := ev_getI pm_m52 d52_68 f7_185 rfl hk rfl
theorem d52_71 : decode prog_1_method_13_code 71 = .ok (.ireturn, 1) := by decide +kernel
theorem s52_71 {v0 v1 v2 v3 : Value} {x : Int32} {im : IM} {rm : RM} : ev 52 71 [v0, v1, v2, v3] [.int x] im rm = some (some (.int x), im, rm) := ev_ireturn pm_m52 d52_71 rfl
theorem d52_72 : decode prog_1_method_13_code 72 = .ok (.aload_n 0, 1) := by decide +kernel
theorem s52_72 {v1 v2 v3 : Value} {l1 : Nat} {st : List Value} {im : IM} {rm : RM}  : ev 52 72 [.ref l1, v1, v2, v3] st im rm = ev 52 73 [.ref l1, v1, v2, v3] (.ref l1 :: st) (im) (rm) := ev_aload_n pm_m52 d52_72 rfl rfl
theorem d52_73 : decode prog_1_method_13_code 73 = .ok (.getfield 83, 3) := by decide +kernel
theorem s52_73 {v0 v1 v2 v3 : Value} {a : Nat} {st : List Value} {im : IM} {rm : RM} (hk : kd a = 17) : ev 52 73 [v0, v1, v2, v3] (.ref a :: st) im rm = ev 52 76 [v0, v1, v2, v3] (pm_ro (rm a 13) :: st) (im) (rm) := ev_getR pm_m52 d52_73 f7_83 rfl hk rfl
theorem d52_76 : decode prog_1_method_13_code 76 = .ok (.getfield 188, 3) := by decide +kernel
theorem s52_76 {v0 v1 v2 v3 : Value} {a : Nat} {st : List Value} {im : IM} {rm : RM} (hk : kd a = 13) : ev 52 76 [v0, v1, v2, v3] (.ref a :: st) im rm = ev 52 79 [v0, v1, v2, v3] (.int (im a 7) :: st) (im) (rm) := ev_getI pm_m52 d52_76 f7_188 rfl hk rfl
theorem d52_79 : decode prog_1_method_13_code 79 = .ok (.ireturn, 1) := by decide +kernel
theorem s52_79 {v0 v1 v2 v3 : Value} {x : Int32} {im : IM} {rm : RM} : ev 52 79 [v0, v1, v2, v3] [.int x] im rm = some (some (.int x), im, rm) := ev_ireturn pm_m52 d52_79 rfl
theorem d52_80 : decode prog_1_method_13_code 80 = .ok (.aload_n 0, 1) := by decide +kernel
theorem s52_80 {v1 v2 v3 : Value} {l1 : Nat} {st : List Value} {im : IM} {rm : RM}  : ev 52 80 [.ref l1, v1, v2, v3] st im rm = ev 52 81 [.ref l1, v1, v2, v3] (.ref l1 :: st) (im) (rm) := ev_aload_n pm_m52 d52_80 rfl rfl
theorem d52_81 : decode prog_1_method_13_code 81 = .ok (.getfield 83, 3) := by decide +kernel
theorem s52_81 {v0 v1 v2 v3 : Value} {a : Nat} {st : List Value} {im : IM} {rm : RM} (hk : kd a = 17) : ev 52 81 [v0, v1, v2, v3] (.ref a :: st) im rm = ev 52 84 [v0, v1, v2, v3] (pm_ro (rm a 13) :: st) (im) (rm) := ev_getR pm_m52 d52_81 f7_83 rfl hk rfl
theorem d52_84 : decode prog_1_method_13_code 84 = .ok (.getfield 191, 3) := by decide +kernel
theorem s52_84 {v0 v1 v2 v3 : Value} {a : Nat} {st : List Value} {im : IM} {rm : RM} (hk : kd a = 13) : ev 52 84 [v0, v1, v2, v3] (.ref a :: st) im rm = ev 52 87 [v0, v1, v2, v3] (.int (im a 8) :: st) (im) (rm) := ev_getI pm_m52 d52_84 f7_191 rfl hk rfl
theorem d52_87 : decode prog_1_method_13_code 87 = .ok (.ireturn, 1) := by decide +kernel
theorem s52_87 {v0 v1 v2 v3 : Value} {x : Int32} {im : IM} {rm : RM} : ev 52 87 [v0, v1, v2, v3] [.int x] im rm = some (some (.int x), im, rm) := ev_ireturn pm_m52 d52_87 rfl
theorem d52_88 : decode prog_1_method_13_code 88 = .ok (.bipush (-3), 2) := by decide +kernel
theorem s52_88 {v0 v1 v2 v3 : Value}  {st : List Value} {im : IM} {rm : RM}  : ev 52 88 [v0, v1, v2, v3] st im rm = ev 52 90 [v0, v1, v2, v3] (.int ((-3 : Int32)) :: st) (im) (rm) := ev_bipush pm_m52 d52_88 rfl rfl
theorem d52_90 : decode prog_1_method_13_code 90 = .ok (.ireturn, 1) := by decide +kernel
theorem s52_90 {v0 v1 v2 v3 : Value} {x : Int32} {im : IM} {rm : RM} : ev 52 90 [v0, v1, v2, v3] [.int x] im rm = some (some (.int x), im, rm) := ev_ireturn pm_m52 d52_90 rfl
theorem d53_0 : decode prog_1_method_14_code 0 = .ok (.iload_n 1, 1) := by decide +kernel
theorem s53_0 {v0 : Value} {l1 : Int32} {st : List Value} {im : IM} {rm : RM}  : ev 53 0 [v0, .int l1] st im rm = ev 53 1 [v0, .int l1] (.int l1 :: st) (im) (rm) := ev_iload_n pm_m53 d53_0 rfl rfl
theorem d53_1 : decode prog_1_method_14_code 1 = .ok (.bipush 16, 2) := by decide +kernel
theorem s53_1 {v0 v1 : Value}  {st : List Value} {im : IM} {rm : RM}  : ev 53 1 [v0, v1] st im rm = ev 53 3 [v0, v1] (.int (nI 16) :: st) (im) (rm) := ev_bipush pm_m53 d53_1 rfl rfl
theorem d53_3 : decode prog_1_method_14_code 3 = .ok (.invokestatic 109, 3) := by decide +kernel
theorem s53_3 {v0 v1 : Value} {p1 : Int32} {p2 : Int32} {im : IM} {rm : RM}  : ev 53 3 [v0, v1] [.int p2, .int p1] im rm = (ev 75 0 [.int p1, .int p2] [] im rm).bind (fun r => ev 53 6 [v0, v1] (r.1.toList ++ []) r.2.1 r.2.2) := ev_callS pm_m53 d53_3 (by decide) l7_109 rfl pm_m75 rfl ⟨rfl, rfl⟩ rfl rfl
theorem d53_6 : decode prog_1_method_14_code 6 = .ok (.ifCond .eq 11, 3) := by decide +kernel
theorem s53_6 {v0 v1 : Value} {x : Int32} {st : List Value} {im : IM} {rm : RM} : ev 53 6 [v0, v1] (.int x :: st) im rm = if x = nI 0 then ev 53 17 [pm_u, pm_u] st im rm else ev 53 9 [v0, v1] st im rm := ev_if_eq (y := 0) pm_m53 d53_6 rfl rfl rfl
theorem d53_9 : decode prog_1_method_14_code 9 = .ok (.aload_n 0, 1) := by decide +kernel
theorem s53_9 {v1 : Value} {l1 : Nat} {st : List Value} {im : IM} {rm : RM}  : ev 53 9 [.ref l1, v1] st im rm = ev 53 10 [.ref l1, v1] (.ref l1 :: st) (im) (rm) := ev_aload_n pm_m53 d53_9 rfl rfl
theorem d53_10 : decode prog_1_method_14_code 10 = .ok (.iload_n 1, 1) := by decide +kernel
theorem s53_10 {v0 : Value} {l1 : Int32} {st : List Value} {im : IM} {rm : RM}  : ev 53 10 [v0, .int l1] st im rm = ev 53 11 [v0, .int l1] (.int l1 :: st) (im) (rm) := ev_iload_n pm_m53 d53_10 rfl rfl
theorem d53_11 : decode prog_1_method_14_code 11 = .ok (.invokevirtual 194, 3) := by decide +kernel
theorem s53_11 {v0 v1 : Value} {a : Nat} {p1 : Int32} {im : IM} {rm : RM} (hk : kd a = 17) : ev 53 11 [v0, v1] [.int p1, .ref a] im rm = (ev 88 0 [.ref a, .int p1, pm_u, pm_u, pm_u] [] im rm).bind (fun r => ev 53 14 [v0, v1] (r.1.toList ++ []) r.2.1 r.2.2) := ev_callV pm_m53 d53_11 l7_194 rfl pm_m88 (by decide) hk rfl ⟨rfl, rfl⟩ rfl rfl
theorem d53_14 : decode prog_1_method_14_code 14 = .ok (.goto 5, 3) := by decide +kernel
theorem s53_14 {v0 v1 : Value}  {st : List Value} {im : IM} {rm : RM}  : ev 53 14 [v0, v1] st im rm = ev 53 19 [pm_u, pm_u] st (im) (rm) := ev_goto pm_m53 d53_14 rfl rfl
theorem d53_17 : decode prog_1_method_14_code 17 = .ok (.bipush (-3), 2) := by decide +kernel
theorem s53_17 {v0 v1 : Value}  {st : List Value} {im : IM} {rm : RM}  : ev 53 17 [v0, v1] st im rm = ev 53 19 [pm_u, pm_u] (.int ((-3 : Int32)) :: st) (im) (rm) := ev_bipush pm_m53 d53_17 rfl rfl
theorem d53_19 : decode prog_1_method_14_code 19 = .ok (.ireturn, 1) := by decide +kernel
theorem s53_19 {v0 v1 : Value} {x : Int32} {im : IM} {rm : RM} : ev 53 19 [v0, v1] [.int x] im rm = some (some (.int x), im, rm) := ev_ireturn pm_m53 d53_19 rfl
theorem d54_0 : decode prog_1_method_15_code 0 = .ok (.iload_n 1, 1) := by decide +kernel
theorem s54_0 {v0 : Value} {l1 : Int32} {st : List Value} {im : IM} {rm : RM}  : ev 54 0 [v0, .int l1] st im rm = ev 54 1 [v0, .int l1] (.int l1 :: st) (im) (rm) := ev_iload_n pm_m54 d54_0 rfl rfl
theorem d54_1 : decode prog_1_method_15_code 1 = .ok (.bipush 16, 2) := by decide +kernel
theorem s54_1 {v0 v1 : Value}  {st : List Value} {im : IM} {rm : RM}  : ev 54 1 [v0, v1] st im rm = ev 54 3 [v0, v1] (.int (nI 16) :: st) (im) (rm) := ev_bipush pm_m54 d54_1 rfl rfl
theorem d54_3 : decode prog_1_method_15_code 3 = .ok (.invokestatic 109, 3) := by decide +kernel
theorem s54_3 {v0 v1 : Value} {p1 : Int32} {p2 : Int32} {im : IM} {rm : RM}  : ev 54 3 [v0, v1] [.int p2, .int p1] im rm = (ev 75 0 [.int p1, .int p2] [] im rm).bind (fun r => ev 54 6 [v0, v1] (r.1.toList ++ []) r.2.1 r.2.2) := ev_callS pm_m54 d54_3 (by decide) l7_109 rfl pm_m75 rfl ⟨rfl, rfl⟩ rfl rfl
theorem d54_6 : decode prog_1_method_15_code 6 = .ok (.ifCond .eq 11, 3) := by decide +kernel
theorem s54_6 {v0 v1 : Value} {x : Int32} {st : List Value} {im : IM} {rm : RM} : ev 54 6 [v0, v1] (.int x :: st) im rm = if x = nI 0 then ev 54 17 [pm_u, pm_u] st im rm else ev 54 9 [v0, v1] st im rm := ev_if_eq (y := 0) pm_m54 d54_6 rfl rfl rfl
theorem d54_9 : decode prog_1_method_15_code 9 = .ok (.aload_n 0, 1) := by decide +kernel
theorem s54_9 {v1 : Value} {l1 : Nat} {st : List Value} {im : IM} {rm : RM}  : ev 54 9 [.ref l1, v1] st im rm = ev 54 10 [.ref l1, v1] (.ref l1 :: st) (im) (rm) := ev_aload_n pm_m54 d54_9 rfl rfl
theorem d54_10 : decode prog_1_method_15_code 10 = .ok (.iload_n 1, 1) := by decide +kernel
theorem s54_10 {v0 : Value} {l1 : Int32} {st : List Value} {im : IM} {rm : RM}  : ev 54 10 [v0, .int l1] st im rm = ev 54 11 [v0, .int l1] (.int l1 :: st) (im) (rm) := ev_iload_n pm_m54 d54_10 rfl rfl
theorem d54_11 : decode prog_1_method_15_code 11 = .ok (.invokevirtual 198, 3) := by decide +kernel
theorem s54_11 {v0 v1 : Value} {a : Nat} {p1 : Int32} {im : IM} {rm : RM} (hk : kd a = 17) : ev 54 11 [v0, v1] [.int p1, .ref a] im rm = (ev 87 0 [.ref a, .int p1, pm_u, pm_u, pm_u, pm_u, pm_u, pm_u] [] im rm).bind (fun r => ev 54 14 [v0, v1] (r.1.toList ++ []) r.2.1 r.2.2) := ev_callV pm_m54 d54_11 l7_198 rfl pm_m87 (by decide) hk rfl ⟨rfl, rfl⟩ rfl rfl
theorem d54_14 : decode prog_1_method_15_code 14 = .ok (.goto 5, 3) := by decide +kernel
theorem s54_14 {v0 v1 : Value}  {st : List Value} {im : IM} {rm : RM}  : ev 54 14 [v0, v1] st im rm = ev 54 19 [pm_u, pm_u] st (im) (rm) := ev_goto pm_m54 d54_14 rfl rfl
theorem d54_17 : decode prog_1_method_15_code 17 = .ok (.bipush (-3), 2) := by decide +kernel
theorem s54_17 {v0 v1 : Value}  {st : List Value} {im : IM} {rm : RM}  : ev 54 17 [v0, v1] st im rm = ev 54 19 [pm_u, pm_u] (.int ((-3 : Int32)) :: st) (im) (rm) := ev_bipush pm_m54 d54_17 rfl rfl
theorem d54_19 : decode prog_1_method_15_code 19 = .ok (.ireturn, 1) := by decide +kernel
theorem s54_19 {v0 v1 : Value} {x : Int32} {im : IM} {rm : RM} : ev 54 19 [v0, v1] [.int x] im rm = some (some (.int x), im, rm) := ev_ireturn pm_m54 d54_19 rfl
theorem d55_0 : decode prog_1_method_16_code 0 = .ok (.ldc 201, 2) := by decide +kernel
theorem s55_0 {v0 v1 v2 v3 v4 : Value}  {st : List Value} {im : IM} {rm : RM}  : ev 55 0 [v0, v1, v2, v3, v4] st im rm = ev 55 2 [v0, v1, v2, v3, v4] (.int (nI 1114112) :: st) (im) (rm) := ev_ldc pm_m55 d55_0 (by decide +kernel) rfl
theorem d55_2 : decode prog_1_method_16_code 2 = .ok (.istore_n 1, 1) := by decide +kernel
theorem s55_2 {v1 v2 v3 v4 : Value} {l1 : Nat} {x2 : Int32} {st : List Value} {im : IM} {rm : RM}  : ev 55 2 [.ref l1, v1, v2, v3, v4] (.int x2 :: st) im rm = ev 55 3 [.ref l1, .int x2, v2, v3, v4] st (im) (rm) := ev_istore_n pm_m55 d55_2 (Nat.le_of_ble_eq_true rfl) rfl rfl
theorem d55_3 : decode prog_1_method_16_code 3 = .ok (.aload_n 0, 1) := by decide +kernel
theorem s55_3 {v1 v2 v3 v4 : Value} {l1 : Nat} {st : List Value} {im : IM} {rm : RM}  : ev 55 3 [.ref l1, v1, v2, v3, v4] st im rm = ev 55 4 [.ref l1, v1, v2, v3, v4] (.ref l1 :: st) (im) (rm) := ev_aload_n pm_m55 d55_3 rfl rfl
theorem d55_4 : decode prog_1_method_16_code 4 = .ok (.getfield 99, 3) := by decide +kernel
theorem s55_4 {v0 v1 v2 v3 v4 : Value} {a : Nat} {st : List Value} {im : IM} {rm : RM} (hk : kd a = 17) : ev 55 4 [v0, v1, v2, v3, v4] (.ref a :: st) im rm = ev 55 7 [v0, v1, v2, v3, v4] (pm_ro (rm a 18) :: st) (im) (rm) := ev_getR pm_m55 d55_4 f7_99 rfl hk rfl
theorem d55_7 : decode prog_1_method_16_code 7 = .ok (.iload_n 1, 1) := by decide +kernel
theorem s55_7 {v0 v2 v3 v4 : Value} {l1 : Int32} {st : List Value} {im : IM} {rm : RM}  : ev 55 7 [v0, .int l1, v2, v3, v4] st im rm = ev 55 8 [v0, .int l1, v2, v3, v4] (.int l1 :: st) (im) (rm) := ev_iload_n pm_m55 d55_7 rfl rfl
theorem d55_8 : decode prog_1_method_16_code 8 = .ok (.invokestatic 202, 3) := by decide +kernel
theorem s55_8 {v0 v1 v2 v3 v4 : Value} {p1 : Nat} {p2 : Int32} {im : IM} {rm : RM}  : ev 55 8 [v0, v1, v2, v3, v4] [.int p2, .ref p1] im rm = (ev 184 0 [.ref p1, .int p2, pm_u, pm_u] [] im rm).bind (fun r => ev 55 11 [v0, v1, v2, v3, v4] (r.1.toList ++ []) r.2.1 r.2.2) := ev_callS pm_m55 d55_8 (by decide) l7_202 rfl pm_m184 rfl ⟨rfl, rfl⟩ rfl rfl
theorem d55_11 : decode prog_1_method_16_code 11 = .ok (.aload_n 0, 1) := by decide +kernel
theorem s55_11 {v1 v2 v3 v4 : Value} {l1 : Nat} {st : List Value} {im : IM} {rm : RM}  : ev 55 11 [.ref l1, v1, v2, v3, v4] st im rm = ev 55 12 [.ref l1, v1, v2, v3, v4] (.ref l1 :: st) (im) (rm) := ev_aload_n pm_m55 d55_11 rfl rfl
theorem d55_12 : decode prog_1_method_16_code 12 = .ok (.getfield 99, 3) := by decide +kernel
theorem s55_12 {v0 v1 v2 v3 v4 : Value} {a : Nat} {st : List Value} {im : IM} {rm : RM} (hk : kd a = 17) : ev 55 12 [v0, v1, v2, v3, v4] (.ref a :: st) im rm = ev 55 15 [v0, v1, v2, v3, v4] (pm_ro (rm a 18) :: st) (im) (rm) := ev_getR pm_m55 d55_12 f7_99 rfl hk rfl
theorem d55_15 : decode prog_1_method_16_code 15 = .ok (.iconst 0, 1) := by decide +kernel
theorem s55_15 {v0 v1 v2 v3 v4 : Value}  {st : List Value} {im : IM} {rm : RM}  : ev 55 15 [v0, v1, v2, v3, v4] st im rm = ev 55 16 [v0, v1, v2, v3, v4] (.int (nI 0) :: st) (im) (rm) := ev_iconst pm_m55 d55_15 rfl rfl
theorem d55_16 : decode prog_1_method_16_code 16 = .ok (.iconst 0, 1) := by decide +kernel
theorem s55_16 {v0 v1 v2 v3 v4 : Value}  {st : List Value} {im : IM} {rm : RM}  : ev 55 16 [v0, v1, v2, v3, v4] st im rm = ev 55 17 [v0, v1, v2, v3, v4] (.int (nI 0) :: st) (im) (rm) := ev_iconst pm_m55 d55_16 rfl rfl
theorem d55_17 : decode prog_1_method_16_code 17 = .ok (.iastore, 1) := by decide +kernel
theorem s55_17 {v0 v1 v2 v3 v4 : Value} {a : Nat} {i : Int32} {v : Int32} {st : List Value} {im : IM} {rm : RM} (hk : kd a = 0) (hi : pm_in i (ln a) = true) : ev 55 17 [v0, v1, v2, v3, v4] (.int v :: .int i :: .ref a :: st) im rm = ev 55 18 [v0, v1, v2, v3, v4] st (pm_w2 im a i.toNatClampNeg v) (rm) := ev_iast pm_m55 d55_17 hk hi rfl
theorem d55_18 : decode prog_1_method_16_code 18 = .ok (.iconst 0, 1) := by decide +kernel
theorem s55_18 {v0 v1 v2 v3 v4 : Value}  {st : List Value} {im : IM} {rm : RM}  : ev 55 18 [v0, v1, v2, v3, v4] st im rm = ev 55 19 [v0, v1, v2, v3, v4] (.int (nI 0) :: st) (im) (rm) := ev_iconst pm_m55 d55_18 rfl rfl
theorem d55_19 : decode prog_1_method_16_code 19 = .ok (.istore_n 2, 1) := by decide +kernel
theorem s55_19 {v0 v2 v3 v4 : Value} {l1 : Int32} {x2 : Int32} {st : List Value} {im : IM} {rm : RM}  : ev 55 19 [v0, .int l1, v2, v3, v4] (.int x2 :: st) im rm = ev 55 20 [v0, .int l1, .int x2, v3, v4] st (im) (rm) := ev_istore_n pm_m55 d55_19 (Nat.le_of_ble_eq_true rfl) rfl rfl
theorem d55_20 : decode prog_1_method_16_code 20 = .ok (.iconst 0, 1) := by decide +kernel
theorem s55_20 {v0 v1 v2 v3 v4 : Value}  {st : List Value} {im : IM} {rm : RM}  : ev 55 20 [v0, v1, v2, v3, v4] st im rm = ev 55 21 [v0, v1, v2, v3, v4] (.int (nI 0) :: st) (im) (rm) := ev_iconst pm_m55 d55_20 rfl rfl
theorem d55_21 : decode prog_1_method_16_code 21 = .ok (.istore_n 3, 1) := by decide +kernel
theorem s55_21 {v0 v1 v3 v4 : Value} {l1 : Int32} {x2 : Int32} {st : List Value} {im : IM} {rm : RM}  : ev 55 21 [v0, v1, .int l1, v3, v4] (.int x2 :: st) im rm = ev 55 22 [v0, v1, .int l1, .int x2, pm_u] st (im) (rm) := ev_istore_n pm_m55 d55_21 (Nat.le_of_ble_eq_true rfl) rfl rfl
theorem d55_22 : decode prog_1_method_16_code 22 = .ok (.iload_n 3, 1) := by decide +kernel
theorem s55_22 {v0 v1 v2 v4 : Value} {l1 : Int32} {st : List Value} {im : IM} {rm : RM}  : ev 55 22 [v0, v1, v2, .int l1, v4] st im rm = ev 55 23 [v0, v1, v2, .int l1, v4] (.int l1 :: st) (im) (rm) := ev_iload_n pm_m55 d55_22 rfl rfl
theorem d55_23 : decode prog_1_method_16_code 23 = .ok (.bipush 16, 2) := by decide +kernel
theorem s55_23 {v0 v1 v2 v3 v4 : Value}  {st : List Value} {im : IM} {rm : RM}  : ev 55 23 [v0, v1, v2, v3, v4] st im rm = ev 55 25 [v0, v1, v2, v3, v4] (.int (nI 16) :: st) (im) (rm) := ev_bipush pm_m55 d55_23 rfl rfl
theorem d55_25 : decode prog_1_method_16_code 25 = .ok (.if_icmp .ge 29, 3) := by decide +kernel
theorem s55_25 {v0 v1 v2 v3 v4 : Value} {x : Int32} {y : Int32} {st : List Value} {im : IM} {rm : RM} : ev 55 25 [v0, v1, v2, v3, v4] (.int y :: .int x :: st) im rm = if y ≤ x then ev 55 54 [v0, pm_u, v2, pm_u, pm_u] st im rm else ev 55 28 [v0, v1, v2, v3, v4] st im rm := ev_icmp_ge pm_m55 d55_25 rfl rfl rfl
theorem d55_28 : decode prog_1_method_16_code 28 = .ok (.aload_n 0, 1) := by decide +kernel
theorem s55_28 {v1 v2 v3 v4 : Value} {l1 : Nat} {st : List Value} {im : IM} {rm : RM}  : ev 55 28 [.ref l1, v1, v2, v3, v4] st im rm = ev 55 29 [.ref l1, v1, v2, v3, v4] (.ref l1 :: st) (im) (rm) := ev_aload_n pm_m55 d55_28 rfl rfl
theorem d55_29 : decode prog_1_method_16_code 29 = .ok (.iload_n 3, 1) := by decide +kernel
theorem s55_29 {v0 v1 v2 v4 : Value} {l1 : Int32} {st : List Value} {im : IM} {rm : RM}  : ev 55 29 [v0, v1, v2, .int l1, v4] st im rm = ev 55 30 [v0, v1, v2, .int l1, v4] (.int l1 :: st) (im) (rm) := ev_iload_n pm_m55 d55_29 rfl rfl
theorem d55_30 : decode prog_1_method_16_code 30 = .ok (.invokevirtual 194, 3) := by decide +kernel
theorem s55_30 {v0 v1 v2 v3 v4 : Value} {a : Nat} {p1 : Int32} {im : IM} {rm : RM} (hk : kd a = 17) : ev 55 30 [v0, v1, v2, v3, v4] [.int p1, .ref a] im rm = (ev 88 0 [.ref a, .int p1, pm_u, pm_u, pm_u] [] im rm).bind (fun r => ev 55 33 [v0, v1, v2, v3, v4] (r.1.toList ++ []) r.2.1 r.2.2) := ev_callV pm_m55 d55_30 l7_194 rfl pm_m88 (by decide) hk rfl ⟨rfl, rfl⟩ rfl rfl
theorem d55_33 : decode prog_1_method_16_code 33 = .ok (.istore 4, 2) := by decide +kernel
theorem s55_33 {v0 v1 v2 v4 : Value} {l1 : Int32} {x2 : Int32} {st : List Value} {im : IM} {rm : RM}  : ev 55 33 [v0, v1, v2, .int l1, v4] (.int x2 :: st) im rm = ev 55 35 [v0, v1, v2, .int l1, .int x2] st (im) (rm) := ev_istore pm_m55 d55_33 (Nat.le_of_ble_eq_true rfl) rfl rfl
theorem d55_35 : decode prog_1_method_16_code 35 = .ok (.iload_n 2, 1) := by decide +kernel
theorem s55_35 {v0 v1 v3 v4 : Value} {l1 : Int32} {st : List Value} {im : IM} {rm : RM}  : ev 55 35 [v0, v1, .int l1, v3, v4] st im rm = ev 55 36 [v0, v1, .int l1, v3, v4] (.int l1 :: st) (im) (rm) := ev_iload_n pm_m55 d55_35 rfl rfl
theorem d55_36 : decode prog_1_method_16_code 36 = .ok (.iload 4, 2) := by decide +kernel
theorem s55_36 {v0 v1 v2 v3 : Value} {l1 : Int32} {st : List Value} {im : IM} {rm : RM}  : ev 55 36 [v0, v1, v2, v3, .int l1] st im rm = ev 55 38 [v0, v1, v2, v3, .int l1] (.int l1 :: st) (im) (rm) := ev_iload pm_m55 d55_36 rfl rfl
theorem d55_38 : decode prog_1_method_16_code 38 = .ok (.ior, 1) := by decide +kernel
theorem s55_38 {v0 v1 v2 v3 v4 : Value} {x : Int32} {y : Int32} {st : List Value} {im : IM} {rm : RM}  : ev 55 38 [v0, v1, v2, v3, v4] (.int y :: .int x :: st) im rm = ev 55 39 [v0, v1, v2, v3, v4] (.int (x ||| y) :: st) (im) (rm) := ev_ior pm_m55 d55_38 rfl
theorem d55_39 : decode prog_1_method_16_code 39 = .ok (.istore_n 2, 1) := by decide +kernel
theorem s55_39 {v0 v2 v3 v4 : Value} {l1 : Int32} {x2 : Int32} {st : List Value} {im : IM} {rm : RM}  : ev 55 39 [v0, .int l1, v2, v3, v4] (.int x2 :: st) im rm = ev 55 40 [v0, .int l1, .int x2, v3, v4] st (im) (rm) := ev_istore_n pm_m55 d55_39 (Nat.le_of_ble_eq_true rfl) rfl rfl
theorem d55_40 : decode prog_1_method_16_code 40 = .ok (.aload_n 0, 1) := by decide +kernel
theorem s55_40 {v1 v2 v3 v4 : Value} {l1 : Nat} {st : List Value} {im : IM} {rm : RM}  : ev 55 40 [.ref l1, v1, v2, v3, v4] st im rm = ev 55 41 [.ref l1, v1, v2, v3, v4] (.ref l1 :: st) (im) (rm) := ev_aload_n pm_m55 d55_40 rfl rfl
theorem d55_41 : decode prog_1_method_16_code 41 = .ok (.iload_n 3, 1) := by decide +kernel
theorem s55_41 {v0 v1 v2 v4 : Value} {l1 : Int32} {st : List Value} {im : IM} {rm : RM}  : ev 55 41 [v0, v1, v2, .int l1, v4] st im rm = ev 55 42 [v0, v1, v2, .int l1, v4] (.int l1 :: st) (im) (rm) := ev_iload_n pm_m55 d55_41 rfl rfl
theorem d55_42 : decode prog_1_method_16_code 42 = .ok (.iload 4, 2) := by decide +kernel
theorem s55_42 {v0 v1 v2 v3 : Value} {l1 : Int32} {st : List Value} {im : IM} {rm : RM}  : ev 55 42 [v0, v1, v2, v3, .int l1] st im rm = ev 55 44 [v0, v1, v2, v3, .int l1] (.int l1 :: st) (im) (rm) := ev_iload pm_m55 d55_42 rfl rfl
theorem d55_44 : decode prog_1_method_16_code 44 = .ok (.iload_n 1, 1) := by decide +kernel
theorem s55_44 {v0 v2 v3 v4 : Value} {l1 : Int32} {st : List Value} {im : IM} {rm : RM}  : ev 55 44 [v0, .int l1, v2, v3, v4] st im rm = ev 55 45 [v0, .int l1, v2, v3, v4] (.int l1 :: st) (im) (rm) := ev_iload_n pm_m55 d55_44 rfl rfl
theorem d55_45 : decode prog_1_method_16_code 45 = .ok (.invokevirtual 208, 3) := by decide +kernel
theorem s55_45 {v0 v1 v2 v3 v4 : Value} {a : Nat} {p1 : Int32} {p2 : Int32} {p3 : Int32} {im : IM} {rm : RM} (hk : kd a = 17) : ev 55 45 [v0, v1, v2, v3, v4] [.int p3, .int p2, .int p1, .ref a] im rm = (ev 90 0 [.ref a, .int p1, .int p2, .int p3, pm_u, pm_u, pm_u] [] im rm).bind (fun r => ev 55 48 [v0, v1, v2, v3, v4] (r.1.toList ++ []) r.2.1 r.2.2) := ev_callV pm_m55 d55_45 l7_208 rfl pm_m90 (by decide) hk rfl ⟨rfl, rfl⟩ rfl rfl
theorem d55_48 : decode prog_1_method_16_code 48 = .ok (.iinc 3 1, 3) := by decide +kernel
theorem s55_48 {v0 v1 v4 : Value} {l1 : Int32} {l2 : Int32} {st : List Value} {im : IM} {rm : RM}  : ev 55 48 [v0, v1, .int l1, .int l2, v4] st im rm = ev 55 51 [v0, v1, .int l1, .int (l2 + nI 1), v4] st (im) (rm) := ev_iinc pm_m55 d55_48 rfl rfl rfl rfl
theorem d55_51 : decode prog_1_method_16_code 51 = .ok (.goto (-29), 3) := by decide +kernel
theorem s55_51 {v0 v1 v2 v3 v4 : Value}  {st : List Value} {im : IM} {rm : RM}  : ev 55 51 [v0, v1, v2, v3, v4] st im rm = ev 55 22 [v0, v1, v2, v3, pm_u] st (im) (rm) := ev_goto pm_m55 d55_51 rfl rfl
theorem d55_54 : decode prog_1_method_16_code 54 = .ok (.aload_n 0, 1) := by decide +kernel
theorem s55_54 {v1 v2 v3 v4 : Value} {l1 : Nat} {st : List Value} {im : IM} {rm : RM}  : ev 55 54 [.ref l1, v1, v2, v3, v4] st im rm = ev 55 55 [.ref l1, v1, v2, v3, v4] (.ref l1 :: st) (im) (rm) := ev_aload_n pm_m55 d55_54 rfl rfl
theorem d55_55 : decode prog_1_method_16_code 55 = .ok (.getfield 99, 3) := by decide +kernel
theorem s55_55 {v0 v1 v2 v3 v4 : Value} {a : Nat} {st : List Value} {im : IM} {rm : RM} (hk : kd a = 17) : ev 55 55 [v0, v1, v2, v3, v4] (.ref a :: st) im rm = ev 55 58 [v0, v1, v2, v3, v4] (pm_ro (rm a 18) :: st) (im) (rm) := ev_getR pm_m55 d55_55 f7_99 rfl hk rfl
theorem d55_58 : decode prog_1_method_16_code 58 = .ok (.iload_n 2, 1) := by decide +kernel
theorem s55_58 {v0 v1 v3 v4 : Value} {l1 : Int32} {st : List Value} {im : IM} {rm : RM}  : ev 55 58 [v0, v1, .int l1, v3, v4] st im rm = ev 55 59 [v0, v1, .int l1, v3, v4] (.int l1 :: st) (im) (rm) := ev_iload_n pm_m55 d55_58 rfl rfl
theorem d55_59 : decode prog_1_method_16_code 59 = .ok (.iaload, 1) := by decide +kernel
theorem s55_59 {v0 v1 v2 v3 v4 : Value} {a : Nat} {i : Int32} {st : List Value} {im : IM} {rm : RM} (hk : kd a = 0) (hi : pm_in i (ln a) = true) : ev 55 59 [v0, v1, v2, v3, v4] (.int i :: .ref a :: st) im rm = ev 55 60 [v0, v1, v2, v3, v4] (.int (im a i.toNatClampNeg) :: st) (im) (rm) := ev_iald pm_m55 d55_59 hk hi rfl
theorem d55_60 : decode prog_1_method_16_code 60 = .ok (.ldc 212, 2) := by decide +kernel
theorem s55_60 {v0 v1 v2 v3 v4 : Value}  {st : List Value} {im : IM} {rm : RM}  : ev 55 60 [v0, v1, v2, v3, v4] st im rm = ev 55 62 [v0, v1, v2, v3, v4] (.int (nI 65535) :: st) (im) (rm) := ev_ldc pm_m55 d55_60 (by decide +kernel) rfl
theorem d55_62 : decode prog_1_method_16_code 62 = .ok (.iand, 1) := by decide +kernel
theorem s55_62 {v0 v1 v2 v3 v4 : Value} {x : Int32} {y : Int32} {st : List Value} {im : IM} {rm : RM}  : ev 55 62 [v0, v1, v2, v3, v4] (.int y :: .int x :: st) im rm = ev 55 63 [v0, v1, v2, v3, v4] (.int (x &&& y) :: st) (im) (rm) := ev_iand pm_m55 d55_62 rfl
theorem d55_63 : decode prog_1_method_16_code 63 = .ok (.ireturn, 1) := by decide +kernel
theorem s55_63 {v0 v1 v2 v3 v4 : Value} {x : Int32} {im : IM} {rm : RM} : ev 55 63 [v0, v1, v2, v3, v4] [.int x] im rm = some (some (.int x), im, rm) := ev_ireturn pm_m55 d55_63 rfl
theorem d56_0 : decode prog_1_method_17_code 0 = .ok (.iload_n 1, 1) := by decide +kernel
theorem s56_0 {v0 v2 v3 v4 v5 v6 : Value} {l1 : Int32} {st : List Value} {im : IM} {rm : RM}  : ev 56 0 [v0, .int l1, v2, v3, v4, v5, v6] st im rm = ev 56 1 [v0, .int l1, v2, v3, v4, v5, v6] (.int l1 :: st) (im) (rm) := ev_iload_n pm_m56 d56_0 rfl rfl
theorem d56_1 : decode prog_1_method_17_code 1 = .ok (.iconst 4, 1) := by decide +kernel
theorem s56_1 {v0 v1 v2 v3 v4 v5 v6 : Value}  {st : List Value} {im : IM} {rm : RM}  : ev 56 1 [v0, v1, v2, v3, v4, v5, v6] st im rm = ev 56 2 [v0, v1, v2, v3, v4, v5, v6] (.int (nI 4) :: st) (im) (rm) := ev_iconst pm_m56 d56_1 rfl rfl
theorem d56_2 : decode prog_1_method_17_code 2 = .ok (.invokestatic 109, 3) := by decide +kernel
theorem s56_2 {v0 v1 v2 v3 v4 v5 v6 : Value} {p1 : Int32} {p2 : Int32} {im : IM} {rm : RM}  : ev 56 2 [v0, v1, v2, v3, v4, v5, v6] [.int p2, .int p1] im rm = (ev 75 0 [.int p1, .int p2] [] im rm).bind (fun r => ev 56 5 [v0, v1, v2, v3, v4, v5, v6] (r.1.toList ++ []) r.2.1 r.2.2) := ev_callS pm_m56 d56_2 (by decide) l7_109 rfl pm_m75 rfl ⟨rfl, rfl⟩ rfl rfl
theorem d56_5 : decode prog_1_method_17_code 5 = .ok (.ifCond .eq 20, 3) := by decide +kernel
theorem s56_5 {v0 v1 v2 v3 v4 v5 v6 : Value} {x : Int32} {st : List Value} {im : IM} {rm : RM} : ev 56 5 [v0, v1, v2, v3, v4, v5, v6] (.int x :: st) im rm = if x = nI 0 then ev 56 25 [pm_u, pm_u, pm_u, pm_u, pm_u, pm_u, pm_u] st im rm else ev 56 8 [v0, v1, v2, v3, v4, v5, v6] st im rm := ev_if_eq (y := 0) pm_m56 d56_5 rfl rfl rfl
theorem d56_8 : decode prog_1_method_17_code 8 = .ok (.iload_n 2, 1) := by decide +kernel
theorem s56_8 {v0 v1 v3 v4 v5 v6 : Value} {l1 : Int32} {st : List Value} {im : IM} {rm : RM}  : ev 56 8 [v0, v1, .int l1, v3, v4, v5, v6] st im rm = ev 56 9 [v0, v1, .int l1, v3, v4, v5, v6] (.int l1 :: st) (im) (rm) := ev_iload_n pm_m56 d56_8 rfl rfl
theorem d56_9 : decode prog_1_method_17_code 9 = .ok (.bipush 6, 2) := by decide +kernel
theorem s56_9 {v0 v1 v2 v3 v4 v5 v6 : Value}  {st : List Value} {im : IM} {rm : RM}  : ev 56 9 [v0, v1, v2, v3, v4, v5, v6] st im rm = ev 56 11 [v0, v1, v2, v3, v4, v5, v6] (.int (nI 6) :: st) (im) (rm) := ev_bipush pm_m56 d56_9 rfl rfl
theorem d56_11 : decode prog_1_method_17_code 11 = .ok (.invokestatic 109, 3) := by decide +kernel
theorem s56_11 {v0 v1 v2 v3 v4 v5 v6 : Value} {p1 : Int32} {p2 : Int32} {im : IM} {rm : RM}  : ev 56 11 [v0, v1, v2, v3, v4, v5, v6] [.int p2, .int p1] im rm = (ev 75 0 [.int p1, .int p2] [] im rm).bind (fun r => ev 56 14 [v0, v1, v2, v3, v4, v5, v6] (r.1.toList ++ []) r.2.1 r.2.2) := ev_callS pm_m56 d56_11 (by decide) l7_109 rfl pm_m75 rfl ⟨rfl, rfl⟩ rfl rfl
theorem d56_14 : decode prog_1_method_17_code 14 = .ok (.ifCond .eq 11, 3) := by decide +kernel
theorem s56_14 {v0 v1 v2 v3 v4 v5 v6 : Value} {x : Int32} {st : List Value} {im : IM} {rm : RM} : ev 56 14 [v0, v1, v2, v3, v4, v5, v6] (.int x :: st) im rm = if x = nI 0 then ev 56 25 [pm_u, pm_u, pm_u, pm_u, pm_u, pm_u, pm_u] st im rm else ev 56 17 [v0, v1, v2, v3, v4, v5, v6] st im rm := ev_if_eq (y := 0) pm_m56 d56_14 rfl rfl rfl
theorem d56_17 : decode prog_1_method_17_code 17 = .ok (.iload_n 3, 1) := by decide +kernel
theorem s56_17 {v0 v1 v2 v4 v5 v6 : Value} {l1 : Int32} {st : List Value} {im : IM} {rm : RM}  : ev 56 17 [v0, v1, v2, .int l1, v4, v5, v6] st im rm = ev 56 18 [v0, v1, v2, .int l1, v4, v5, v6] (.int l1 :: st) (im) (rm) := ev_iload_n pm_m56 d56_17 rfl rfl
theorem d56_18 : decode prog_1_method_17_code 18 = .ok (.iconst 4, 1) := by decide +kernel
theorem s56_18 {v0 v1 v2 v3 v4 v5 v6 : Value}  {st : List Value} {im : IM} {rm : RM}  : ev 56 18 [v0, v1, v2, v3, v4, v5, v6] st im rm = ev 56 19 [v0, v1, v2, v3, v4, v5, v6] (.int (nI 4) :: st) (im) (rm) := ev_iconst pm_m56 d56_18 rfl rfl
theorem d56_19 : decode prog_1_method_17_code 19 = .ok (.invokestatic 109, 3) := by decide +kernel
theorem s56_19 {v0 v1 v2 v3 v4 v5 v6 : Value} {p1 : Int32} {p2 : Int32} {im : IM} {rm : RM}  : ev 56 19 [v0, v1, v2, v3, v4, v5, v6] [.int p2, .int p1] im rm = (ev 75 0 [.int p1, .int p2] [] im rm).bind (fun r => ev 56 22 [v0, v1, v2, v3, v4, v5, v6] (r.1.toList ++ []) r.2.1 r.2.2) := ev_callS pm_m56 d56_19 (by decide) l7_109 rfl pm_m75 rfl ⟨rfl, rfl⟩ rfl rfl
theorem d56_22 : decode prog_1_method_17_code 22 = .ok (.ifCond .ne 6, 3) := by decide +kernel
theorem s56_22 {v0 v1 v2 v3 v4 v5 v6 : Value} {x : Int32} {st : List Value} {im : IM} {rm : RM} : ev 56 22 [v0, v1, v2, v3, v4, v5, v6] (.int x :: st) im rm = if x = nI 0 then ev 56 25 [pm_u, pm_u, pm_u, pm_u, pm_u, pm_u, pm_u] st im rm else ev 56 28 [v0, v1, v2, v3, pm_u, pm_u, pm_u] st im rm := ev_if_ne (y := 0) pm_m56 d56_22 rfl rfl rfl
theorem d56_25 : decode prog_1_method_17_code 25 = .ok (.bipush (-2), 2) := by decide +kernel
theorem s56_25 {v0 v1 v2 v3 v4 v5 v6 : Value}  {st : List Value} {im : IM} {rm : RM}  : ev 56 25 [v0, v1, v2, v3, v4, v5, v6] st im rm = ev 56 27 [v0, v1, v2, v3, v4, v5, v6] (.int ((-2 : Int32)) :: st) (im) (rm) := ev_bipush pm_m56 d56_25 rfl rfl
theorem d56_27 : decode prog_1_method_17_code 27 = .ok (.ireturn, 1) := by decide +kernel
theorem s56_27 {v0 v1 v2 v3 v4 v5 v6 : Value} {x : Int32} {im : IM} {rm : RM} : ev 56 27 [v0, v1, v2, v3, v4, v5, v6] [.int x] im rm = some (some (.int x), im, rm) := ev_ireturn pm_m56 d56_27 rfl
theorem d56_28 : decode prog_1_method_17_code 28 = .ok (.aload_n 0, 1) := by decide +kernel
theorem s56_28 {v1 v2 v3 v4 v5 v6 : Value} {l1 : Nat} {st : List Value} {im : IM} {rm : RM}  : ev 56 28 [.ref l1, v1, v2, v3, v4, v5, v6] st im rm = ev 56 29 [.ref l1, v1, v2, v3, v4, v5, v6] (.ref l1 :: st) (im) (rm) := ev_aload_n pm_m56 d56_28 rfl rfl
theorem d56_29 : decode prog_1_method_17_code 29 = .ok (.getfield 11, 3) := by decide +kernel
theorem s56_29 {v0 v1 v2 v3 v4 v5 v6 : Value} {a : Nat} {st : List Value} {im : IM} {rm : RM} (hk : kd a = 17) : ev 56 29 [v0, v1, v2, v3, v4, v5, v6] (.ref a :: st) im rm = ev 56 32 [v0, v1, v2, v3, v4, v5, v6] (pm_ro (rm a 0) :: st) (im) (rm) := ev_getR pm_m56 d56_29 f7_11 rfl hk rfl
theorem d56_32 : decode prog_1_method_17_code 32 = .ok (.iload_n 2, 1) := by decide +kernel
theorem s56_32 {v0 v1 v3 v4 v5 v6 : Value} {l1 : Int32} {st : List Value} {im : IM} {rm : RM}  : ev 56 32 [v0, v1, .int l1, v3, v4, v5, v6] st im rm = ev 56 33 [v0, v1, .int l1, v3, v4, v5, v6] (.int l1 :: st) (im) (rm) := ev_iload_n pm_m56 d56_32 rfl rfl
theorem d56_33 : decode prog_1_method_17_code 33 = .ok (.aaload, 1) := by decide +kernel
theorem s56_33 {v0 v1 v2 v3 v4 v5 v6 : Value} {a : Nat} {i : Int32} {st : List Value} {im : IM} {rm : RM} (hk : 2 ≤ kd a ∧ kd a ≤ 5) (hi : pm_in i (ln a) = true) : ev 56 33 [v0, v1, v2, v3, v4, v5, v6] (.int i :: .ref a :: st) im rm = ev 56 34 [v0, v1, v2, v3, v4, v5, v6] (pm_ro (rm a i.toNatClampNeg) :: st) (im) (rm) := ev_aald pm_m56 d56_33 hk hi rfl
theorem d56_34 : decode prog_1_method_17_code 34 = .ok (.astore 4, 2) := by decide +kernel
theorem s56_34 {v0 v1 v2 v4 v5 v6 : Value} {l1 : Int32} {x2 : Nat} {st : List Value} {im : IM} {rm : RM}  : ev 56 34 [v0, v1, v2, .int l1, v4, v5, v6] (.ref x2 :: st) im rm = ev 56 36 [v0, v1, v2, .int l1, .ref x2, v5, v6] st (im) (rm) := ev_astore pm_m56 d56_34 (Nat.le_of_ble_eq_true rfl) rfl rfl
theorem d56_36 : decode prog_1_method_17_code 36 = .ok (.iconst 0, 1) := by decide +kernel
theorem s56_36 {v0 v1 v2 v3 v4 v5 v6 : Value}  {st : List Value} {im : IM} {rm : RM}  : ev 56 36 [v0, v1, v2, v3, v4, v5, v6] st im rm = ev 56 37 [v0, v1, v2, v3, v4, v5, v6] (.int (nI 0) :: st) (im) (rm) := ev_iconst pm_m56 d56_36 rfl rfl
theorem d56_37 : decode prog_1_method_17_code 37 = .ok (.istore 5, 2) := by decide +kernel
theorem s56_37 {v0 v1 v2 v3 v5 v6 : Value} {l1 : Nat} {x2 : Int32} {st : List Value} {im : IM} {rm : RM}  : ev 56 37 [v0, v1, v2, v3, .ref l1, v5, v6] (.int x2 :: st) im rm = ev 56 39 [v0, v1, pm_u, v3, .ref l1, .int x2, pm_u] st (im) (rm) := ev_istore pm_m56 d56_37 (Nat.le_of_ble_eq_true rfl) rfl rfl
theorem d56_39 : decode prog_1_method_17_code 39 = .ok (.iload 5, 2) := by decide +kernel
theorem s56_39 {v0 v1 v2 v3 v4 v6 : Value} {l1 : Int32} {st : List Value} {im : IM} {rm : RM}  : ev 56 39 [v0, v1, v2, v3, v4, .int l1, v6] st im rm = ev 56 41 [v0, v1, v2, v3, v4, .int l1, v6] (.int l1 :: st) (im) (rm) := ev_iload pm_m56 d56_39 rfl rfl
theorem d56_41 : decode prog_1_method_17_code 41 = .ok (.bipush 9, 2) := by decide +kernel
theorem s56_41 {v0 v1 v2 v3 v4 v5 v6 : Value}  {st : List Value} {im : IM} {rm : RM}  : ev 56 41 [v0, v1, v2, v3, v4, v5, v6] st im rm = ev 56 43 [v0, v1, v2, v3, v4, v5, v6] (.int (nI 9) :: st) (im) (rm) := ev_bipush pm_m56 d56_41 rfl rfl
theorem d56_43 : decode prog_1_method_17_code 43 = .ok (.if_icmp .gt 70, 3) := by decide +kernel
theorem s56_43 {v0 v1 v2 v3 v4 v5 v6 : Value} {x : Int32} {y : Int32} {st : List Value} {im : IM} {rm : RM} : ev 56 43 [v0, v1, v2, v3, v4, v5, v6] (.int y :: .int x :: st) im rm = if y < x then ev 56 113 [pm_u, pm_u, pm_u, pm_u, pm_u, pm_u, pm_u] st im rm else ev 56 46 [v0, v1, v2, v3, v4, v5, v6] st im rm := ev_icmp_gt pm_m56 d56_43 rfl rfl rfl
theorem d56_46 : decode prog_1_method_17_code 46 = .ok (.iconst 0, 1) := by decide +kernel
theorem s56_46 {v0 v1 v2 v3 v4 v5 v6 : Value}  {st : List Value} {im : IM} {rm : RM}  : ev 56 46 [v0, v1, v2, v3, v4, v5, v6] st im rm = ev 56 47 [v0, v1, v2, v3, v4, v5, v6] (.int (nI 0) :: st) (im) (rm) := ev_iconst pm_m56 d56_46 rfl rfl
theorem d56_47 : decode prog_1_method_17_code 47 = .ok (.istore 6, 2) := by decide +kernel
theorem s56_47 {v0 v1 v2 v3 v4 v6 : Value} {l1 : Int32} {x2 : Int32} {st : List Value} {im : IM} {rm : RM}  : ev 56 47 [v0, v1, v2, v3, v4, .int l1, v6] (.int x2 :: st) im rm = ev 56 49 [v0, v1, pm_u, v3, v4, .int l1, .int x2] st (im) (rm) := ev_istore pm_m56 d56_47 (Nat.le_of_ble_eq_true rfl) rfl rfl
theorem d56_49 : decode prog_1_method_17_code 49 = .ok (.iload 6, 2) := by decide +kernel
theorem s56_49 {v0 v1 v2 v3 v4 v5 : Value} {l1 : Int32} {st : List Value} {im : IM} {rm : RM}  : ev 56 49 [v0, v1, v2, v3, v4, v5, .int l1] st im rm = ev 56 51 [v0, v1, v2, v3, v4, v5, .int l1] (.int l1 :: st) (im) (rm) := ev_iload pm_m56 d56_49 rfl rfl
theorem d56_51 : decode prog_1_method_17_code 51 = .ok (.aload 4, 2) := by decide +kernel
theorem s56_51 {v0 v1 v2 v3 v5 v6 : Value} {l1 : Nat} {st : List Value} {im : IM} {rm : RM}  : ev 56 51 [v0, v1, v2, v3, .ref l1, v5, v6] st im rm = ev 56 53 [v0, v1, v2, v3, .ref l1, v5, v6] (.ref l1 :: st) (im) (rm) := ev_aload pm_m56 d56_51 rfl rfl
theorem d56_53 : decode prog_1_method_17_code 53 = .ok (.getfield 120, 3) := by decide +kernel
theorem s56_53 {v0 v1 v2 v3 v4 v5 v6 : Value} {a : Nat} {st : List Value} {im : IM} {rm : RM} (hk : kd a = 10) : ev 56 53 [v0, v1, v2, v3, v4, v5, v6] (.ref a :: st) im rm = ev 56 56 [v0, v1, v2, v3, v4, v5, v6] (.int (im a 2) :: st) (im) (rm) := ev_getI pm_m56 d56_53 f7_120 rfl hk rfl
theorem d56_56 : decode prog_1_method_17_code 56 = .ok (.if_icmp .ge 51, 3) := by decide +kernel
theorem s56_56 {v0 v1 v2 v3 v4 v5 v6 : Value} {x : Int32} {y : Int32} {st : List Value} {im : IM} {rm : RM} : ev 56 56 [v0, v1, v2, v3, v4, v5, v6] (.int y :: .int x :: st) im rm = if y ≤ x then ev 56 107 [v0, v1, pm_u, v3, v4, v5, pm_u] st im rm else ev 56 59 [v0, v1, v2, v3, v4, v5, v6] st im rm := ev_icmp_ge pm_m56 d56_56 rfl rfl rfl
theorem d56_59 : decode prog_1_method_17_code 59 = .ok (.aload 4, 2) := by decide +kernel
theorem s56_59 {v0 v1 v2 v3 v5 v6 : Value} {l1 : Nat} {st : List Value} {im : IM} {rm : RM}  : ev 56 59 [v0, v1, v2, v3, .ref l1, v5, v6] st im rm = ev 56 61 [v0, v1, v2, v3, .ref l1, v5, v6] (.ref l1 :: st) (im) (rm) := ev_aload pm_m56 d56_59 rfl rfl
theorem d56_61 : decode prog_1_method_17_code 61 = .ok (.getfield 213, 3) := by decide +kernel
theorem s56_61 {v0 v1 v2 v3 v4 v5 v6 : Value} {a : Nat} {st : List Value} {im : IM} {rm : RM} (hk : kd a = 10) : ev 56 61 [v0, v1, v2, v3, v4, v5, v6] (.ref a :: st) im rm = ev 56 64 [v0, v1, v2, v3, v4, v5, v6] (pm_ro (rm a 6) :: st) (im) (rm) := ev_getR pm_m56 d56_61 f7_213 rfl hk rfl
theorem d56_64 : decode prog_1_method_17_code 64 = .ok (.iload 6, 2) := by decide +kernel
theorem s56_64 {v0 v1 v2 v3 v4 v5 : Value} {l1 : Int32} {st : List Value} {im : IM} {rm : RM}  : ev 56 64 [v0, v1, v2, v3, v4, v5, .int l1] st im rm = ev 56 66 [v0, v1, v2, v3, v4, v5, .int l1] (.int l1 :: st) (im) (rm) := ev_iload pm_m56 d56_64 rfl rfl
theorem d56_66 : decode prog_1_method_17_code 66 = .ok (.iaload, 1) := by decide +kernel
theorem s56_66 {v0 v1 v2 v3 v4 v5 v6 : Value} {a : Nat} {i : Int32} {st : List Value} {im : IM} {rm : RM} (hk : kd a = 0) (hi : pm_in i (ln a) = true) : ev 56 66 [v0, v1, v2, v3, v4, v5, v6] (.int i :: .ref a :: st) im rm = ev 56 67 [v0, v1, v2, v3, v4, v5, v6] (.int (im a i.toNatClampNeg) :: st) (im) (rm) := ev_iald pm_m56 d56_66 hk hi rfl
theorem d56_67 : decode prog_1_method_17_code 67 = .ok (.iload 5, 2) := by decide +kernel
theorem s56_67 {v0 v1 v2 v3 v4 v6 : Value} {l1 : Int32} {st : List Value} {im : IM} {rm : RM}  : ev 56 67 [v0, v1, v2, v3, v4, .int l1, v6] st im rm = ev 56 69 [v0, v1, v2, v3, v4, .int l1, v6] (.int l1 :: st) (im) (rm) := ev_iload pm_m56 d56_67 rfl rfl
theorem d56_69 : decode prog_1_method_17_code 69 = .ok (.if_icmp .eq 32, 3) := by decide +kernel
theorem s56_69 {v0 v1 v2 v3 v4 v5 v6 : Value} {x : Int32} {y : Int32} {st : List Value} {im : IM} {rm : RM} : ev 56 69 [v0, v1, v2, v3, v4, v5, v6] (.int y :: .int x :: st) im rm = if x = y then ev 56 101 [v0, v1, pm_u, v3, v4, v5, v6] st im rm else ev 56 72 [v0, v1, v2, v3, v4, v5, v6] st im rm := ev_icmp_eq pm_m56 d56_69 rfl rfl rfl
theorem d56_72 : decode prog_1_method_17_code 72 = .ok (.aload_n 0, 1) := by decide +kernel
theorem s56_72 {v1 v2 v3 v4 v5 v6 : Value} {l1 : Nat} {st : List Value} {im : IM} {rm : RM}  : ev 56 72 [.ref l1, v1, v2, v3, v4, v5, v6] st im rm = ev 56 73 [.ref l1, v1, v2, v3, v4, v5, v6] (.ref l1 :: st) (im) (rm) := ev_aload_n pm_m56 d56_72 rfl rfl
theorem d56_73 : decode prog_1_method_17_code 73 = .ok (.aload_n 0, 1) := by decide +kernel
theorem s56_73 {v1 v2 v3 v4 v5 v6 : Value} {l1 : Nat} {st : List Value} {im : IM} {rm : RM}  : ev 56 73 [.ref l1, v1, v2, v3, v4, v5, v6] st im rm = ev 56 74 [.ref l1, v1, v2, v3, v4, v5, v6] (.ref l1 :: st) (im) (rm) := ev_aload_n pm_m56 d56_73 rfl rfl
theorem d56_74 : decode prog_1_method_17_code 74 = .ok (.getfield 17, 3) := by decide +kernel
theorem s56_74 {v0 v1 v2 v3 v4 v5 v6 : Value} {a : Nat} {st : List Value} {im : IM} {rm : RM} (hk : kd a = 17) : ev 56 74 [v0, v1, v2, v3, v4, v5, v6] (.ref a :: st) im rm = ev 56 77 [v0, v1, v2, v3, v4, v5, v6] (pm_ro (rm a 1) :: st) (im) (rm) := ev_getR pm_m56 d56_74 f7_17 rfl hk rfl
theorem d56_77 : decode prog_1_method_17_code 77 = .ok (.iload_n 1, 1) := by decide +kernel
theorem s56_77 {v0 v2 v3 v4 v5 v6 : Value} {l1 : Int32} {st : List Value} {im : IM} {rm : RM}  : ev 56 77 [v0, .int l1, v2, v3, v4, v5, v6] st im rm = ev 56 78 [v0, .int l1, v2, v3, v4, v5, v6] (.int l1 :: st) (im) (rm) := ev_iload_n pm_m56 d56_77 rfl rfl
theorem d56_78 : decode prog_1_method_17_code 78 = .ok (.aaload, 1) := by decide +kernel
theorem s56_78 {v0 v1 v2 v3 v4 v5 v6 : Value} {a : Nat} {i : Int32} {st : List Value} {im : IM} {rm : RM} (hk : 2 ≤ kd a ∧ kd a ≤ 5) (hi : pm_in i (ln a) = true) : ev 56 78 [v0, v1, v2, v3, v4, v5, v6] (.int i :: .ref a :: st) im rm = ev 56 79 [v0, v1, v2, v3, v4, v5, v6] (pm_ro (rm a i.toNatClampNeg) :: st) (im) (rm) := ev_aald pm_m56 d56_78 hk hi rfl
theorem d56_79 : decode prog_1_method_17_code 79 = .ok (.aload 4, 2) := by decide +kernel
theorem s56_79 {v0 v1 v2 v3 v5 v6 : Value} {l1 : Nat} {st : List Value} {im : IM} {rm : RM}  : ev 56 79 [v0, v1, v2, v3, .ref l1, v5, v6] st im rm = ev 56 81 [v0, v1, v2, v3, .ref l1, v5, v6] (.ref l1 :: st) (im) (rm) := ev_aload pm_m56 d56_79 rfl rfl
theorem d56_81 : decode prog_1_method_17_code 81 = .ok (.iload_n 3, 1) := by decide +kernel
theorem s56_81 {v0 v1 v2 v4 v5 v6 : Value} {l1 : Int32} {st : List Value} {im : IM} {rm : RM}  : ev 56 81 [v0, v1, v2, .int l1, v4, v5, v6] st im rm = ev 56 82 [v0, v1, v2, .int l1, v4, v5, v6] (.int l1 :: st) (im) (rm) := ev_iload_n pm_m56 d56_81 rfl rfl
theorem d56_82 : decode prog_1_method_17_code 82 = .ok (.iload 6, 2) := by decide +kernel
theorem s56_82 {v0 v1 v2 v3 v4 v5 : Value} {l1 : Int32} {st : List Value} {im : IM} {rm : RM}  : ev 56 82 [v0, v1, v2, v3, v4, v5, .int l1] st im rm = ev 56 84 [v0, v1, v2, v3, v4, v5, .int l1] (.int l1 :: st) (im) (rm) := ev_iload pm_m56 d56_82 rfl rfl
theorem d56_84 : decode prog_1_method_17_code 84 = .ok (.iload 5, 2) := by decide +kernel
theorem s56_84 {v0 v1 v2 v3 v4 v6 : Value} {l1 : Int32} {st : List Value} {im : IM} {rm : RM}  : ev 56 84 [v0, v1, v2, v3, v4, .int l1, v6] st im rm = ev 56 86 [v0, v1, v2, v3, v4, .int l1, v6] (.int l1 :: st) (im) (rm) := ev_iload pm_m56 d56_84 rfl rfl
theorem d56_86 : decode prog_1_method_17_code 86 = .ok (.invokevirtual 216, 3) := by decide +kernel
theorem s56_86 {v0 v1 v2 v3 v4 v5 v6 : Value} {a : Nat} {p1 : Nat} {p2 : Nat} {p3 : Int32} {p4 : Int32} {p5 : Int32} {im : IM} {rm : RM} (hk : kd a = 17) : ev 56 86 [v0, v1, v2, v3, v4, v5, v6] [.int p5, .int p4, .int p3, .ref p2, .ref p1, .ref a] im rm = (ev 85 0 [.ref a, .ref p1, .ref p2, .int p3, .int p4, .int p5, pm_u, pm_u] [] im rm).bind (fun r => ev 56 89 [v0, v1, v2, v3, v4, v5, v6] (r.1.toList ++ []) r.2.1 r.2.2) := ev_callV pm_m56 d56_86 l7_216 rfl pm_m85 (by decide) hk rfl ⟨rfl, rfl⟩ rfl rfl
theorem d56_89 : decode prog_1_method_17_code 89 = .ok (.ifCond .eq 12, 3) := by decide +kernel
theorem s56_89 {v0 v1 v2 v3 v4 v5 v6 : Value} {x : Int32} {st : List Value} {im : IM} {rm : RM} : ev 56 89 [v0, v1, v2, v3, v4, v5, v6] (.int x :: st) im rm = if x = nI 0 then ev 56 101 [v0, v1, pm_u, v3, v4, v5, v6] st im rm else ev 56 92 [v0, v1, v2, v3, v4, v5, v6] st im rm := ev_if_eq (y := 0) pm_m56 d56_89 rfl rfl rfl
theorem d56_92 : decode prog_1_method_17_code 92 = .ok (.bipush 64, 2) := by decide +kernel
theorem s56_92 {v0 v1 v2 v3 v4 v5 v6 : Value}  {st : List Value} {im : IM} {rm : RM}  : ev 56 92 [v0, v1, v2, v3, v4, v5, v6] st im rm = ev 56 94 [v0, v1, v2, v3, v4, v5, v6] (.int (nI 64) :: st) (im) (rm) := ev_bipush pm_m56 d56_92 rfl rfl
theorem d56_94 : decode prog_1_method_17_code 94 = .ok (.iload 5, 2) := by decide +kernel
theorem s56_94 {v0 v1 v2 v3 v4 v6 : Value} {l1 : Int32} {st : List Value} {im : IM} {rm : RM}  : ev 56 94 [v0, v1, v2, v3, v4, .int l1, v6] st im rm = ev 56 96 [v0, v1, v2, v3, v4, .int l1, v6] (.int l1 :: st) (im) (rm) := ev_iload pm_m56 d56_94 rfl rfl
theorem d56_96 : decode prog_1_method_17_code 96 = .ok (.imul, 1) := by decide +kernel
theorem s56_96 {v0 v1 v2 v3 v4 v5 v6 : Value} {x : Int32} {y : Int32} {st : List Value} {im : IM} {rm : RM}  : ev 56 96 [v0, v1, v2, v3, v4, v5, v6] (.int y :: .int x :: st) im rm = ev 56 97 [v0, v1, v2, v3, v4, v5, v6] (.int (x * y) :: st) (im) (rm) := ev_imul pm_m56 d56_96 rfl
theorem d56_97 : decode prog_1_method_17_code 97 = .ok (.iload 6, 2) := by decide +kernel
theorem s56_97 {v0 v1 v2 v3 v4 v5 : Value} {l1 : Int32} {st : List Value} {im : IM} {rm : RM}  : ev 56 97 [v0, v1, v2, v3, v4, v5, .int l1] st im rm = ev 56 99 [v0, v1, v2, v3, v4, v5, .int l1] (.int l1 :: st) (im) (rm) := ev_iload pm_m56 d56_97 rfl rfl
theorem d56_99 : decode prog_1_method_17_code 99 = .ok (.iadd, 1) := by decide +kernel
theorem s56_99 {v0 v1 v2 v3 v4 v5 v6 : Value} {x : Int32} {y : Int32} {st : List Value} {im : IM} {rm : RM}  : ev 56 99 [v0, v1, v2, v3, v4, v5, v6] (.int y :: .int x :: st) im rm = ev 56 100 [v0, v1, v2, v3, v4, v5, v6] (.int (x + y) :: st) (im) (rm) := ev_iadd pm_m56 d56_99 rfl
theorem d56_100 : decode prog_1_method_17_code 100 = .ok (.ireturn, 1) := by decide +kernel
theorem s56_100 {v0 v1 v2 v3 v4 v5 v6 : Value} {x : Int32} {im : IM} {rm : RM} : ev 56 100 [v0, v1, v2, v3, v4, v5, v6] [.int x] im rm = some (some (.int x), im, rm) := ev_ireturn pm_m56 d56_100 rfl
theorem d56_101 : decode prog_1_method_17_code 101 = .ok (.iinc 6 1, 3) := by decide +kernel
theorem s56_101 {v0 v1 v2 v3 v4 : Value} {l1 : Int32} {l2 : Int32} {st : List Value} {im : IM} {rm : RM}  : ev 56 101 [v0, v1, v2, v3, v4, .int l1, .int l2] st im rm = ev 56 104 [v0, v1, v2, v3, v4, .int l1, .int (l2 + nI 1)] st (im) (rm) := ev_iinc pm_m56 d56_101 rfl rfl rfl rfl
theorem d56_104 : decode prog_1_method_17_code 104 = .ok (.goto (-55), 3) := by decide +kernel
theorem s56_104 {v0 v1 v2 v3 v4 v5 v6 : Value}  {st : List Value} {im : IM} {rm : RM}  : ev 56 104 [v0, v1, v2, v3, v4, v5, v6] st im rm = ev 56 49 [v0, v1, pm_u, v3, v4, v5, v6] st (im) (rm) := ev_goto pm_m56 d56_104 rfl rfl
theorem d56_107 : decode prog_1_method_17_code 107 = .ok (.iinc 5 1, 3) := by decide +kernel
theorem s56_107 {v0 v1 v2 v3 v6 : Value} {l1 : Nat} {l2 : Int32} {st : List Value} {im : IM} {rm : RM}  : ev 56 107 [v0, v1, v2, v3, .ref l1, .int l2, v6] st im rm = ev 56 110 [v0, v1, v2, v3, .ref l1, .int (l2 + nI 1), v6] st (im) (rm) := ev_iinc pm_m56 d56_107 rfl rfl rfl rfl
theorem d56_110 : decode prog_1_method_17_code 110 = .ok (.goto (-71), 3) := by decide +kernel
theorem s56_110 {v0 v1 v2 v3 v4 v5 v6 : Value}  {st : List Value} {im : IM} {rm : RM}  : ev 56 110 [v0, v1, v2, v3, v4, v5, v6] st im rm = ev 56 39 [v0, v1, pm_u, v3, v4, v5, pm_u] st (im) (rm) := ev_goto pm_m56 d56_110 rfl rfl
theorem d56_113 : decode prog_1_method_17_code 113 = .ok (.iconst (-1), 1) := by decide +kernel
theorem s56_113 {v0 v1 v2 v3 v4 v5 v6 : Value}  {st : List Value} {im : IM} {rm : RM}  : ev 56 113 [v0, v1, v2, v3, v4, v5, v6] st im rm = ev 56 114 [v0, v1, v2, v3, v4, v5, v6] (.int ((-1 : Int32)) :: st) (im) (rm) := ev_iconst pm_m56 d56_113 rfl rfl
theorem d56_114 : decode prog_1_method_17_code 114 = .ok (.ireturn, 1) := by decide +kernel
theorem s56_114 {v0 v1 v2 v3 v4 v5 v6 : Value} {x : Int32} {im : IM} {rm : RM} : ev 56 114 [v0, v1, v2, v3, v4, v5, v6] [.int x] im rm = some (some (.int x), im, rm) := ev_ireturn pm_m56 d56_114 rfl
theorem d57_0 : decode prog_1_method_18_code 0 = .ok (.aload_n 0, 1) := by decide +kernel
theorem s57_0 {v1 v2 v3 : Value} {l1 : Nat} {st : List Value} {im : IM} {rm : RM}  : ev 57 0 [.ref l1, v1, v2, v3] st im rm = ev 57 1 [.ref l1, v1, v2, v3] (.ref l1 :: st) (im) (rm) := ev_aload_n pm_m57 d57_0 rfl rfl
theorem d57_1 : decode prog_1_method_18_code 1 = .ok (.iload_n 1, 1) := by decide +kernel
theorem s57_1 {v0 v2 v3 : Value} {l1 : Int32} {st : List Value} {im : IM} {rm : RM}  : ev 57 1 [v0, .int l1, v2, v3] st im rm = ev 57 2 [v0, .int l1, v2, v3] (.int l1 :: st) (im) (rm) := ev_iload_n pm_m57 d57_1 rfl rfl
theorem d57_2 : decode prog_1_method_18_code 2 = .ok (.iload_n 2, 1) := by decide +kernel
theorem s57_2 {v0 v1 v3 : Value} {l1 : Int32} {st : List Value} {im : IM} {rm : RM}  : ev 57 2 [v0, v1, .int l1, v3] st im rm = ev 57 3 [v0, v1, .int l1, v3] (.int l1 :: st) (im) (rm) := ev_iload_n pm_m57 d57_2 rfl rfl
theorem d57_3 : decode prog_1_method_18_code 3 = .ok (.invokevirtual 141, 3) := by decide +kernel
theorem s57_3 {v0 v1 v2 v3 : Value} {a : Nat} {p1 : Int32} {p2 : Int32} {im : IM} {rm : RM} (hk : kd a = 17) : ev 57 3 [v0, v1, v2, v3] [.int p2, .int p1, .ref a] im rm = (ev 77 0 [.ref a, .int p1, .int p2] [] im rm).bind (fun r => ev 57 6 [v0, v1, v2, v3] (r.1.toList ++ []) r.2.1 r.2.2) := ev_callV pm_m57 d57_3 l7_141 rfl pm_m77 (by decide) hk rfl ⟨rfl, rfl⟩ rfl rfl
theorem d57_6 : decode prog_1_method_18_code 6 = .ok (.ifCond .ne 6, 3) := by decide +kernel
theorem s57_6 {v0 v1 v2 v3 : Value} {x : Int32} {st : List Value} {im : IM} {rm : RM} : ev 57 6 [v0, v1, v2, v3] (.int x :: st) im rm = if x = nI 0 then ev 57 9 [v0, v1, v2, v3] st im rm else ev 57 12 [v0, v1, v2, v3] st im rm := ev_if_ne (y := 0) pm_m57 d57_6 rfl rfl rfl
theorem d57_9 : decode prog_1_method_18_code 9 = .ok (.bipush (-2), 2) := by decide +kernel
theorem s57_9 {v0 v1 v2 v3 : Value}  {st : List Value} {im : IM} {rm : RM}  : ev 57 9 [v0, v1, v2, v3] st im rm = ev 57 11 [v0, v1, v2, v3] (.int ((-2 : Int32)) :: st) (im) (rm) := ev_bipush pm_m57 d57_9 rfl rfl
theorem d57_11 : decode prog_1_method_18_code 11 = .ok (.ireturn, 1) := by decide +kernel
theorem s57_11 {v0 v1 v2 v3 : Value} {x : Int32} {im : IM} {rm : RM} : ev 57 11 [v0, v1, v2, v3] [.int x] im rm = some (some (.int x), im, rm) := ev_ireturn pm_m57 d57_11 rfl
theorem d57_12 : decode prog_1_method_18_code 12 = .ok (.iload_n 3, 1) := by decide +kernel
theorem s57_12 {v0 v1 v2 : Value} {l1 : Int32} {st : List Value} {im : IM} {rm : RM}  : ev 57 12 [v0, v1, v2, .int l1] st im rm = ev 57 13 [v0, v1, v2, .int l1] (.int l1 :: st) (im) (rm) := ev_iload_n pm_m57 d57_12 rfl rfl
theorem d57_13 : decode prog_1_method_18_code 13 = .ok (.sipush 9999, 3) := by decide +kernel
theorem s57_13 {v0 v1 v2 v3 : Value}  {st : List Value} {im : IM} {rm : RM}  : ev 57 13 [v0, v1, v2, v3] st im rm = ev 57 16 [v0, v1, v2, v3] (.int (nI 9999) :: st) (im) (rm) := ev_sipush pm_m57 d57_13 rfl rfl
theorem d57_16 : decode prog_1_method_18_code 16 = .ok (.invokestatic 117, 3) := by decide +kernel
theorem s57_16 {v0 v1 v2 v3 : Value} {p1 : Int32} {p2 : Int32} {im : IM} {rm : RM}  : ev 57 16 [v0, v1, v2, v3] [.int p2, .int p1] im rm = (ev 76 0 [.int p1, .int p2] [] im rm).bind (fun r => ev 57 19 [v0, v1, v2, v3] (r.1.toList ++ []) r.2.1 r.2.2) := ev_callS pm_m57 d57_16 (by decide) l7_117 rfl pm_m76 rfl ⟨rfl, rfl⟩ rfl rfl
theorem d57_19 : decode prog_1_method_18_code 19 = .ok (.ifCond .ne 6, 3) := by decide +kernel
theorem s57_19 {v0 v1 v2 v3 : Value} {x : Int32} {st : List Value} {im : IM} {rm : RM} : ev 57 19 [v0, v1, v2, v3] (.int x :: st) im rm = if x = nI 0 then ev 57 22 [v0, v1, v2, v3] st im rm else ev 57 25 [v0, v1, v2, v3] st im rm := ev_if_ne (y := 0) pm_m57 d57_19 rfl rfl rfl
theorem d57_22 : decode prog_1_method_18_code 22 = .ok (.bipush (-3), 2) := by decide +kernel
theorem s57_22 {v0 v1 v2 v3 : Value}  {st : List Value} {im : IM} {rm : RM}  : ev 57 22 [v0, v1, v2, v3] st im rm = ev 57 24 [v0, v1, v2, v3] (.int ((-3 : Int32)) :: st) (im) (rm) := ev_bipush pm_m57 d57_22 rfl rfl
theorem d57_24 : decode prog_1_method_18_code 24 = .ok (.ireturn, 1) := by decide +kernel
theorem s57_24 {v0 v1 v2 v3 : Value} {x : Int32} {im : IM} {rm : RM} : ev 57 24 [v0, v1, v2, v3] [.int x] im rm = some (some (.int x), im, rm) := ev_ireturn pm_m57 d57_24 rfl
theorem d57_25 : decode prog_1_method_18_code 25 = .ok (.aload_n 0, 1) := by decide +kernel
theorem s57_25 {v1 v2 v3 : Value} {l1 : Nat} {st : List Value} {im : IM} {rm : RM}  : ev 57 25 [.ref l1, v1, v2, v3] st im rm = ev 57 26 [.ref l1, v1, v2, v3] (.ref l1 :: st) (im) (rm) := ev_aload_n pm_m57 d57_25 rfl rfl
theorem d57_26 : decode prog_1_method_18_code 26 = .ok (.getfield 55, 3) := by decide +kernel
theorem s57_26 {v0 v1 v2 v3 : Value} {a : Nat} {st : List Value} {im : IM} {rm : RM} (hk : kd a = 17) : ev 57 26 [v0, v1, v2, v3] (.ref a :: st) im rm = ev 57 29 [v0, v1, v2, v3] (pm_ro (rm a 8) :: st) (im) (rm) := ev_getR pm_m57 d57_26 f7_55 rfl hk rfl
theorem d57_29 : decode prog_1_method_18_code 29 = .ok (.getfield 220, 3) := by decide +kernel
theorem s57_29 {v0 v1 v2 v3 : Value} {a : Nat} {st : List Value} {im : IM} {rm : RM} (hk : kd a = 12) : ev 57 29 [v0, v1, v2, v3] (.ref a :: st) im rm = ev 57 32 [v0, v1, v2, v3] (.int (im a 0) :: st) (im) (rm) := ev_getI pm_m57 d57_29 f7_220 rfl hk rfl
theorem d57_32 : decode prog_1_method_18_code 32 = .ok (.bipush 20, 2) := by decide +kernel
theorem s57_32 {v0 v1 v2 v3 : Value}  {st : List Value} {im : IM} {rm : RM}  : ev 57 32 [v0, v1, v2, v3] st im rm = ev 57 34 [v0, v1, v2, v3] (.int (nI 20) :: st) (im) (rm) := ev_bipush pm_m57 d57_32 rfl rfl
theorem d57_34 : decode prog_1_method_18_code 34 = .ok (.if_icmp .lt 6, 3) := by decide +kernel
theorem s57_34 {v0 v1 v2 v3 : Value} {x : Int32} {y : Int32} {st : List Value} {im : IM} {rm : RM} : ev 57 34 [v0, v1, v2, v3] (.int y :: .int x :: st) im rm = if x < y then ev 57 40 [v0, v1, v2, v3] st im rm else ev 57 37 [v0, v1, v2, v3] st im rm := ev_icmp_lt pm_m57 d57_34 rfl rfl rfl
theorem d57_37 : decode prog_1_method_18_code 37 = .ok (.bipush (-5), 2) := by decide +kernel
theorem s57_37 {v0 v1 v2 v3 : Value}  {st : List Value} {im : IM} {rm : RM}  : ev 57 37 [v0, v1, v2, v3] st im rm = ev 57 39 [v0, v1, v2, v3] (.int ((-5 : Int32)) :: st) (im) (rm) := ev_bipush pm_m57 d57_37 rfl rfl
theorem d57_39 : decode prog_1_method_18_code 39 = .ok (.ireturn, 1) := by decide +kernel
theorem s57_39 {v0 v1 v2 v3 : Value} {x : Int32} {im : IM} {rm : RM} : ev 57 39 [v0, v1, v2, v3] [.int x] im rm = some (some (.int x), im, rm) := ev_ireturn pm_m57 d57_39 rfl
theorem d57_40 : decode prog_1_method_18_code 40 = .ok (.aload_n 0, 1) := by decide +kernel
theorem s57_40 {v1 v2 v3 : Value} {l1 : Nat} {st : List Value} {im : IM} {rm : RM}  : ev 57 40 [.ref l1, v1, v2, v3] st im rm = ev 57 41 [.ref l1, v1, v2, v3] (.ref l1 :: st) (im) (rm) := ev_aload_n pm_m57 d57_40 rfl rfl
theorem d57_41 : decode prog_1_method_18_code 41 = .ok (.getfield 55, 3) := by decide +kernel
theorem s57_41 {v0 v1 v2 v3 : Value} {a : Nat} {st : List Value} {im : IM} {rm : RM} (hk : kd a = 17) : ev 57 41 [v0, v1, v2, v3] (.ref a :: st) im rm = ev 57 44 [v0, v1, v2, v3] (pm_ro (rm a 8) :: st) (im) (rm) := ev_getR pm_m57 d57_41 f7_55 rfl hk rfl
theorem d57_44 : decode prog_1_method_18_code 44 = .ok (.iload_n 1, 1) := by decide +kernel
theorem s57_44 {v0 v2 v3 : Value} {l1 : Int32} {st : List Value} {im : IM} {rm : RM}  : ev 57 44 [v0, .int l1, v2, v3] st im rm = ev 57 45 [v0, .int l1, v2, v3] (.int l1 :: st) (im) (rm) := ev_iload_n pm_m57 d57_44 rfl rfl
theorem d57_45 : decode prog_1_method_18_code 45 = .ok (.iload_n 2, 1) := by decide +kernel
theorem s57_45 {v0 v1 v3 : Value} {l1 : Int32} {st : List Value} {im : IM} {rm : RM}  : ev 57 45 [v0, v1, .int l1, v3] st im rm = ev 57 46 [v0, v1, .int l1, v3] (.int l1 :: st) (im) (rm) := ev_iload_n pm_m57 d57_45 rfl rfl
theorem d57_46 : decode prog_1_method_18_code 46 = .ok (.iload_n 3, 1) := by decide +kernel
theorem s57_46 {v0 v1 v2 : Value} {l1 : Int32} {st : List Value} {im : IM} {rm : RM}  : ev 57 46 [v0, v1, v2, .int l1] st im rm = ev 57 47 [v0, v1, v2, .int l1] (.int l1 :: st) (im) (rm) := ev_iload_n pm_m57 d57_46 rfl rfl
theorem d57_47 : decode prog_1_method_18_code 47 = .ok (.invokevirtual 223, 3) := by decide +kernel
theorem s57_47 {v0 v1 v2 v3 : Value} {a : Nat} {p1 : Int32} {p2 : Int32} {p3 : Int32} {im : IM} {rm : RM} (hk : kd a = 12) : ev 57 47 [v0, v1, v2, v3] [.int p3, .int p2, .int p1, .ref a] im rm = (ev 10 0 [.ref a, .int p1, .int p2, .int p3] [] im rm).bind (fun r => ev 57 50 [v0, v1, v2, v3] (r.1.toList ++ []) r.2.1 r.2.2) := ev_callV pm_m57 d57_47 l7_223 rfl pm_m10 (by decide) hk rfl ⟨rfl, rfl⟩ rfl rfl
theorem d57_50 : decode prog_1_method_18_code 50 = .ok (.aload_n 0, 1) := by decide +kernel
theorem s57_50 {v1 v2 v3 : Value} {l1 : Nat} {st : List Value} {im : IM} {rm : RM}  : ev 57 50 [.ref l1, v1, v2, v3] st im rm = ev 57 51 [.ref l1, v1, v2, v3] (.ref l1 :: st) (im) (rm) := ev_aload_n pm_m57 d57_50 rfl rfl
theorem d57_51 : decode prog_1_method_18_code 51 = .ok (.getfield 55, 3) := by decide +kernel
theorem s57_51 {v0 v1 v2 v3 : Value} {a : Nat} {st : List Value} {im : IM} {rm : RM} (hk : kd a = 17) : ev 57 51 [v0, v1, v2, v3] (.ref a :: st) im rm = ev 57 54 [v0, v1, v2, v3] (pm_ro (rm a 8) :: st) (im) (rm) := ev_getR pm_m57 d57_51 f7_55 rfl hk rfl
theorem d57_54 : decode prog_1_method_18_code 54 = .ok (.getfield 220, 3) := by decide +kernel
theorem s57_54 {v0 v1 v2 v3 : Value} {a : Nat} {st : List Value} {im : IM} {rm : RM} (hk : kd a = 12) : ev 57 54 [v0, v1, v2, v3] (.ref a :: st) im rm = ev 57 57 [v0, v1, v2, v3] (.int (im a 0) :: st) (im) (rm) := ev_getI pm_m57 d57_54 f7_220 rfl hk rfl
theorem d57_57 : decode prog_1_method_18_code 57 = .ok (.ireturn, 1) := by decide +kernel
theorem s57_57 {v0 v1 v2 v3 : Value} {x : Int32} {im : IM} {rm : RM} : ev 57 57 [v0, v1, v2, v3] [.int x] im rm = some (some (.int x), im, rm) := ev_ireturn pm_m57 d57_57 rfl
theorem d58_0 : decode prog_1_method_19_code 0 = .ok (.iconst 0, 1) := by decide +kernel
theorem s58_0 {v0 v1 v2 : Value}  {st : List Value} {im : IM} {rm : RM}  : ev 58 0 [v0, v1, v2] st im rm = ev 58 1 [v0, v1, v2] (.int (nI 0) :: st) (im) (rm) := ev_iconst pm_m58 d58_0 rfl rfl
theorem d58_1 : decode prog_1_method_19_code 1 = .ok (.istore_n 1, 1) := by decide +kernel
theorem s58_1 {v1 v2 : Value} {l1 : Nat} {x2 : Int32} {st : List Value} {im : IM} {rm : RM}  : ev 58 1 [.ref l1, v1, v2] (.int x2 :: st) im rm = ev 58 2 [.ref l1, .int x2, v2] st (im) (rm) := ev_istore_n pm_m58 d58_1 (Nat.le_of_ble_eq_true rfl) rfl rfl
theorem d58_2 : decode prog_1_method_19_code 2 = .ok (.iconst 0, 1) := by decide +kernel
theorem s58_2 {v0 v1 v2 : Value}  {st : List Value} {im : IM} {rm : RM}  : ev 58 2 [v0, v1, v2] st im rm = ev 58 3 [v0, v1, v2] (.int (nI 0) :: st) (im) (rm) := ev_iconst pm_m58 d58_2 rfl rfl
theorem d58_3 : decode prog_1_method_19_code 3 = .ok (.istore_n 2, 1) := by decide +kernel
theorem s58_3 {v0 v2 : Value} {l1 : Int32} {x2 : Int32} {st : List Value} {im : IM} {rm : RM}  : ev 58 3 [v0, .int l1, v2] (.int x2 :: st) im rm = ev 58 4 [v0, .int l1, .int x2] st (im) (rm) := ev_istore_n pm_m58 d58_3 (Nat.le_of_ble_eq_true rfl) rfl rfl
theorem d58_4 : decode prog_1_method_19_code 4 = .ok (.iload_n 2, 1) := by decide +kernel
theorem s58_4 {v0 v1 : Value} {l1 : Int32} {st : List Value} {im : IM} {rm : RM}  : ev 58 4 [v0, v1, .int l1] st im rm = ev 58 5 [v0, v1, .int l1] (.int l1 :: st) (im) (rm) := ev_iload_n pm_m58 d58_4 rfl rfl
theorem d58_5 : decode prog_1_method_19_code 5 = .ok (.iconst 4, 1) := by decide +kernel
theorem s58_5 {v0 v1 v2 : Value}  {st : List Value} {im : IM} {rm : RM}  : ev 58 5 [v0, v1, v2] st im rm = ev 58 6 [v0, v1, v2] (.int (nI 4) :: st) (im) (rm) := ev_iconst pm_m58 d58_5 rfl rfl
theorem d58_6 : decode prog_1_method_19_code 6 = .ok (.if_icmp .ge 23, 3) := by decide +kernel
theorem s58_6 {v0 v1 v2 : Value} {x : Int32} {y : Int32} {st : List Value} {im : IM} {rm : RM} : ev 58 6 [v0, v1, v2] (.int y :: .int x :: st) im rm = if y ≤ x then ev 58 29 [pm_u, v1, pm_u] st im rm else ev 58 9 [v0, v1, v2] st im rm := ev_icmp_ge pm_m58 d58_6 rfl rfl rfl
theorem d58_9 : decode prog_1_method_19_code 9 = .ok (.aload_n 0, 1) := by decide +kernel
theorem s58_9 {v1 v2 : Value} {l1 : Nat} {st : List Value} {im : IM} {rm : RM}  : ev 58 9 [.ref l1, v1, v2] st im rm = ev 58 10 [.ref l1, v1, v2] (.ref l1 :: st) (im) (rm) := ev_aload_n pm_m58 d58_9 rfl rfl
theorem d58_10 : decode prog_1_method_19_code 10 = .ok (.iload_n 2, 1) := by decide +kernel
theorem s58_10 {v0 v1 : Value} {l1 : Int32} {st : List Value} {im : IM} {rm : RM}  : ev 58 10 [v0, v1, .int l1] st im rm = ev 58 11 [v0, v1, .int l1] (.int l1 :: st) (im) (rm) := ev_iload_n pm_m58 d58_10 rfl rfl
theorem d58_11 : decode prog_1_method_19_code 11 = .ok (.invokevirtual 225, 3) := by decide +kernel
theorem s58_11 {v0 v1 v2 : Value} {a : Nat} {p1 : Int32} {im : IM} {rm : RM} (hk : kd a = 17) : ev 58 11 [v0, v1, v2] [.int p1, .ref a] im rm = (ev 91 0 [.ref a, .int p1, pm_u, pm_u, pm_u] [] im rm).bind (fun r => ev 58 14 [v0, v1, v2] (r.1.toList ++ []) r.2.1 r.2.2) := ev_callV pm_m58 d58_11 l7_225 rfl pm_m91 (by decide) hk rfl ⟨rfl, rfl⟩ rfl rfl
theorem d58_14 : decode prog_1_method_19_code 14 = .ok (.ifCond .eq 9, 3) := by decide +kernel
theorem s58_14 {v0 v1 v2 : Value} {x : Int32} {st : List Value} {im : IM} {rm : RM} : ev 58 14 [v0, v1, v2] (.int x :: st) im rm = if x = nI 0 then ev 58 23 [v0, v1, v2] st im rm else ev 58 17 [v0, v1, v2] st im rm := ev_if_eq (y := 0) pm_m58 d58_14 rfl rfl rfl
theorem d58_17 : decode prog_1_method_19_code 17 = .ok (.iload_n 1, 1) := by decide +kernel
theorem s58_17 {v0 v2 : Value} {l1 : Int32} {st : List Value} {im : IM} {rm : RM}  : ev 58 17 [v0, .int l1, v2] st im rm = ev 58 18 [v0, .int l1, v2] (.int l1 :: st) (im) (rm) := ev_iload_n pm_m58 d58_17 rfl rfl
theorem d58_18 : decode prog_1_method_19_code 18 = .ok (.iconst 1, 1) := by decide +kernel
theorem s58_18 {v0 v1 v2 : Value}  {st : List Value} {im : IM} {rm : RM}  : ev 58 18 [v0, v1, v2] st im rm = ev 58 19 [v0, v1, v2] (.int (nI 1) :: st) (im) (rm) := ev_iconst pm_m58 d58_18 rfl rfl
theorem d58_19 : decode prog_1_method_19_code 19 = .ok (.iload_n 2, 1) := by decide +kernel
theorem s58_19 {v0 v1 : Value} {l1 : Int32} {st : List Value} {im : IM} {rm : RM}  : ev 58 19 [v0, v1, .int l1] st im rm = ev 58 20 [v0, v1, .int l1] (.int l1 :: st) (im) (rm) := ev_iload_n pm_m58 d58_19 rfl rfl
theorem d58_20 : decode prog_1_method_19_code 20 = .ok (.ishl, 1) := by decide +kernel
theorem s58_20 {v0 v1 v2 : Value} {x : Int32} {y : Int32} {st : List Value} {im : IM} {rm : RM}  : ev 58 20 [v0, v1, v2] (.int y :: .int x :: st) im rm = ev 58 21 [v0, v1, v2] (.int (x <<< (y &&& 31)) :: st) (im) (rm) := ev_ishl pm_m58 d58_20 rfl
theorem d58_21 : decode prog_1_method_19_code 21 = .ok (.ior, 1) := by decide +kernel
theorem s58_21 {v0 v1 v2 : Value} {x : Int32} {y : Int32} {st : List Value} {im : IM} {rm : RM}  : ev 58 21 [v0, v1, v2] (.int y :: .int x :: st) im rm = ev 58 22 [v0, v1, v2] (.int (x ||| y) :: st) (im) (rm) := ev_ior pm_m58 d58_21 rfl
theorem d58_22 : decode prog_1_method_19_code 22 = .ok (.istore_n 1, 1) := by decide +kernel
theorem s58_22 {v1 v2 : Value} {l1 : Nat} {x2 : Int32} {st : List Value} {im : IM} {rm : RM}  : ev 58 22 [.ref l1, v1, v2] (.int x2 :: st) im rm = ev 58 23 [.ref l1, .int x2, v2] st (im) (rm) := ev_istore_n pm_m58 d58_22 (Nat.le_of_ble_eq_true rfl) rfl rfl
theorem d58_23 : decode prog_1_method_19_code 23 = .ok (.iinc 2 1, 3) := by decide +kernel
theorem s58_23 {v0 : Value} {l1 : Int32} {l2 : Int32} {st : List Value} {im : IM} {rm : RM}  : ev 58 23 [v0, .int l1, .int l2] st im rm = ev 58 26 [v0, .int l1, .int (l2 + nI 1)] st (im) (rm) := ev_iinc pm_m58 d58_23 rfl rfl rfl rfl
theorem d58_26 : decode prog_1_method_19_code 26 = .ok (.goto (-22), 3) := by decide +kernel
theorem s58_26 {v0 v1 v2 : Value}  {st : List Value} {im : IM} {rm : RM}  : ev 58 26 [v0, v1, v2] st im rm = ev 58 4 [v0, v1, v2] st (im) (rm) := ev_goto pm_m58 d58_26 rfl rfl
theorem d58_29 : decode prog_1_method_19_code 29 = .ok (.iload_n 1, 1) := by decide +kernel
theorem s58_29 {v0 v2 : Value} {l1 : Int32} {st : List Value} {im : IM} {rm : RM}  : ev 58 29 [v0, .int l1, v2] st im rm = ev 58 30 [v0, .int l1, v2] (.int l1 :: st) (im) (rm) := ev_iload_n pm_m58 d58_29 rfl rfl
theorem d58_30 : decode prog_1_method_19_code 30 = .ok (.ireturn, 1) := by decide +kernel
theorem s58_30 {v0 v1 v2 : Value} {x : Int32} {im : IM} {rm : RM} : ev 58 30 [v0, v1, v2] [.int x] im rm = some (some (.int x), im, rm) := ev_ireturn pm_m58 d58_30 rfl
theorem d59_0 : decode prog_1_method_20_code 0 = .ok (.iload_n 1, 1) := by decide +kernel
theorem s59_0 {v0 v2 v3 v4 v5 v6 : Value} {l1 : Int32} {st : List Value} {im : IM} {rm : RM}  : ev 59 0 [v0, .int l1, v2, v3, v4, v5, v6] st im rm = ev 59 1 [v0, .int l1, v2, v3, v4, v5, v6] (.int l1 :: st) (im) (rm) := ev_iload_n pm_m59 d59_0 rfl rfl
theorem d59_1 : decode prog_1_method_20_code 1 = .ok (.iconst 2, 1) := by decide +kernel
theorem s59_1 {v0 v1 v2 v3 v4 v5 v6 : Value}  {st : List Value} {im : IM} {rm : RM}  : ev 59 1 [v0, v1, v2, v3, v4, v5, v6] st im rm = ev 59 2 [v0, v1, v2, v3, v4, v5, v6] (.int (nI 2) :: st) (im) (rm) := ev_iconst pm_m59 d59_1 rfl rfl
theorem d59_2 : decode prog_1_method_20_code 2 = .ok (.invokestatic 109, 3) := by decide +kernel
theorem s59_2 {v0 v1 v2 v3 v4 v5 v6 : Value} {p1 : Int32} {p2 : Int32} {im : IM} {rm : RM}  : ev 59 2 [v0, v1, v2, v3, v4, v5, v6] [.int p2, .int p1] im rm = (ev 75 0 [.int p1, .int p2] [] im rm).bind (fun r => ev 59 5 [v0, v1, v2, v3, v4, v5, v6] (r.1.toList ++ []) r.2.1 r.2.2) := ev_callS pm_m59 d59_2 (by decide) l7_109 rfl pm_m75 rfl ⟨rfl, rfl⟩ rfl rfl
theorem d59_5 : decode prog_1_method_20_code 5 = .ok (.ifCond .ne 6, 3) := by decide +kernel
theorem s59_5 {v0 v1 v2 v3 v4 v5 v6 : Value} {x : Int32} {st : List Value} {im : IM} {rm : RM} : ev 59 5 [v0, v1, v2, v3, v4, v5, v6] (.int x :: st) im rm = if x = nI 0 then ev 59 8 [v0, v1, v2, v3, v4, v5, v6] st im rm else ev 59 11 [v0, v1, pm_u, pm_u, pm_u, pm_u, pm_u] st im rm := ev_if_ne (y := 0) pm_m59 d59_5 rfl rfl rfl
theorem d59_8 : decode prog_1_method_20_code 8 = .ok (.bipush (-3), 2) := by decide +kernel
theorem s59_8 {v0 v1 v2 v3 v4 v5 v6 : Value}  {st : List Value} {im : IM} {rm : RM}  : ev 59 8 [v0, v1, v2, v3, v4, v5, v6] st im rm = ev 59 10 [v0, v1, v2, v3, v4, v5, v6] (.int ((-3 : Int32)) :: st) (im) (rm) := ev_bipush pm_m59 d59_8 rfl rfl
theorem d59_10 : decode prog_1_method_20_code 10 = .ok (.ireturn, 1) := by decide +kernel
theorem s59_10 {v0 v1 v2 v3 v4 v5 v6 : Value} {x : Int32} {im : IM} {rm : RM} : ev 59 10 [v0, v1, v2, v3, v4, v5, v6] [.int x] im rm = some (some (.int x), im, rm) := ev_ireturn pm_m59 d59_10 rfl
theorem d59_11 : decode prog_1_method_20_code 11 = .ok (.aload_n 0, 1) := by decide +kernel
theorem s59_11 {v1 v2 v3 v4 v5 v6 : Value} {l1 : Nat} {st : List Value} {im : IM} {rm : RM}  : ev 59 11 [.ref l1, v1, v2, v3, v4, v5, v6] st im rm = ev 59 12 [.ref l1, v1, v2, v3, v4, v5, v6] (.ref l1 :: st) (im) (rm) := ev_aload_n pm_m59 d59_11 rfl rfl
theorem d59_12 : decode prog_1_method_20_code 12 = .ok (.invokevirtual 229, 3) := by decide +kernel
theorem s59_12 {v0 v1 v2 v3 v4 v5 v6 : Value} {a : Nat} {im : IM} {rm : RM} (hk : kd a = 17) : ev 59 12 [v0, v1, v2, v3, v4, v5, v6] [.ref a] im rm = (ev 58 0 [.ref a, pm_u, pm_u] [] im rm).bind (fun r => ev 59 15 [v0, v1, v2, v3, v4, v5, v6] (r.1.toList ++ []) r.2.1 r.2.2) := ev_callV pm_m59 d59_12 l7_229 rfl pm_m58 (by decide) hk rfl ⟨rfl, rfl⟩ rfl rfl
theorem d59_15 : decode prog_1_method_20_code 15 = .ok (.istore_n 2, 1) := by decide +kernel
theorem s59_15 {v0 v2 v3 v4 v5 v6 : Value} {l1 : Int32} {x2 : Int32} {st : List Value} {im : IM} {rm : RM}  : ev 59 15 [v0, .int l1, v2, v3, v4, v5, v6] (.int x2 :: st) im rm = ev 59 16 [v0, .int l1, .int x2, v3, v4, v5, v6] st (im) (rm) := ev_istore_n pm_m59 d59_15 (Nat.le_of_ble_eq_true rfl) rfl rfl
theorem d59_16 : decode prog_1_method_20_code 16 = .ok (.aload_n 0, 1) := by decide +kernel
theorem s59_16 {v1 v2 v3 v4 v5 v6 : Value} {l1 : Nat} {st : List Value} {im : IM} {rm : RM}  : ev 59 16 [.ref l1, v1, v2, v3, v4, v5, v6] st im rm = ev 59 17 [.ref l1, v1, v2, v3, v4, v5, v6] (.ref l1 :: st) (im) (rm) := ev_aload_n pm_m59 d59_16 rfl rfl
theorem d59_17 : decode prog_1_method_20_code 17 = .ok (.invokevirtual 233, 3) := by decide +kernel
theorem s59_17 {v0 v1 v2 v3 v4 v5 v6 : Value} {a : Nat} {im : IM} {rm : RM} (hk : kd a = 17) : ev 59 17 [v0, v1, v2, v3, v4, v5, v6] [.ref a] im rm = (ev 82 0 [.ref a, pm_u] [] im rm).bind (fun r => ev 59 20 [v0, v1, v2, v3, v4, v5, v6] (r.1.toList ++ []) r.2.1 r.2.2) := ev_callV pm_m59 d59_17 l7_233 rfl pm_m82 (by decide) hk rfl ⟨rfl, rfl⟩ rfl rfl
theorem d59_20 : decode prog_1_method_20_code 20 = .ok (.iconst (-1), 1) := by decide +kernel
theorem s59_20 {v0 v1 v2 v3 v4 v5 v6 : Value}  {st : List Value} {im : IM} {rm : RM}  : ev 59 20 [v0, v1, v2, v3, v4, v5, v6] st im rm = ev 59 21 [v0, v1, v2, v3, v4, v5, v6] (.int ((-1 : Int32)) :: st) (im) (rm) := ev_iconst pm_m59 d59_20 rfl rfl
theorem d59_21 : decode prog_1_method_20_code 21 = .ok (.istore_n 3, 1) := by decide +kernel
theorem s59_21 {v0 v1 v3 v4 v5 v6 : Value} {l1 : Int32} {x2 : Int32} {st : List Value} {im : IM} {rm : RM}  : ev 59 21 [v0, v1, .int l1, v3, v4, v5, v6] (.int x2 :: st) im rm = ev 59 22 [v0, v1, .int l1, .int x2, v4, v5, v6] st (im) (rm) := ev_istore_n pm_m59 d59_21 (Nat.le_of_ble_eq_true rfl) rfl rfl
theorem d59_22 : decode prog_1_method_20_code 22 = .ok (.iconst 0, 1) := by decide +kernel
theorem s59_22 {v0 v1 v2 v3 v4 v5 v6 : Value}  {st : List Value} {im : IM} {rm : RM}  : ev 59 22 [v0, v1, v2, v3, v4, v5, v6] st im rm = ev 59 23 [v0, v1, v2, v3, v4, v5, v6] (.int (nI 0) :: st) (im) (rm) := ev_iconst pm_m59 d59_22 rfl rfl
theorem d59_23 : decode prog_1_method_20_code 23 = .ok (.istore 4, 2) := by decide +kernel
theorem s59_23 {v0 v1 v2 v4 v5 v6 : Value} {l1 : Int32} {x2 : Int32} {st : List Value} {im : IM} {rm : RM}  : ev 59 23 [v0, v1, v2, .int l1, v4, v5, v6] (.int x2 :: st) im rm = ev 59 25 [v0, v1, v2, .int l1, .int x2, v5, v6] st (im) (rm) := ev_istore pm_m59 d59_23 (Nat.le_of_ble_eq_true rfl) rfl rfl
theorem d59_25 : decode prog_1_method_20_code 25 = .ok (.iconst 0, 1) := by decide +kernel
theorem s59_25 {v0 v1 v2 v3 v4 v5 v6 : Value}  {st : List Value} {im : IM} {rm : RM}  : ev 59 25 [v0, v1, v2, v3, v4, v5, v6] st im rm = ev 59 26 [v0, v1, v2, v3, v4, v5, v6] (.int (nI 0) :: st) (im) (rm) := ev_iconst pm_m59 d59_25 rfl rfl
theorem d59_26 : decode prog_1_method_20_code 26 = .ok (.istore 5, 2) := by decide +kernel
theorem s59_26 {v0 v1 v2 v3 v5 v6 : Value} {l1 : Int32} {x2 : Int32} {st : List Value} {im : IM} {rm : RM}  : ev 59 26 [v0, v1, v2, v3, .int l1, v5, v6] (.int x2 :: st) im rm = ev 59 28 [v0, v1, v2, v3, .int l1, .int x2, pm_u] st (im) (rm) := ev_istore pm_m59 d59_26 (Nat.le_of_ble_eq_true rfl) rfl rfl
theorem d59_28 : decode prog_1_method_20_code 28 = .ok (.iload 5, 2) := by decide +kernel
theorem s59_28 {v0 v1 v2 v3 v4 v6 : Value} {l1 : Int32} {st : List Value} {im : IM} {rm : RM}  : ev 59 28 [v0, v1, v2, v3, v4, .int l1, v6] st im rm = ev 59 30 [v0, v1, v2, v3, v4, .int l1, v6] (.int l1 :: st) (im) (rm) := ev_iload pm_m59 d59_28 rfl rfl
theorem d59_30 : decode prog_1_method_20_code 30 = .ok (.bipush 6, 2) := by decide +kernel
theorem s59_30 {v0 v1 v2 v3 v4 v5 v6 : Value}  {st : List Value} {im : IM} {rm : RM}  : ev 59 30 [v0, v1, v2, v3, v4, v5, v6] st im rm = ev 59 32 [v0, v1, v2, v3, v4, v5, v6] (.int (nI 6) :: st) (im) (rm) := ev_bipush pm_m59 d59_30 rfl rfl
theorem d59_32 : decode prog_1_method_20_code 32 = .ok (.if_icmp .ge 32, 3) := by decide +kernel
theorem s59_32 {v0 v1 v2 v3 v4 v5 v6 : Value} {x : Int32} {y : Int32} {st : List Value} {im : IM} {rm : RM} : ev 59 32 [v0, v1, v2, v3, v4, v5, v6] (.int y :: .int x :: st) im rm = if y ≤ x then ev 59 64 [pm_u, v1, pm_u, v3, v4, pm_u, pm_u] st im rm else ev 59 35 [v0, v1, v2, v3, v4, v5, v6] st im rm := ev_icmp_ge pm_m59 d59_32 rfl rfl rfl
theorem d59_35 : decode prog_1_method_20_code 35 = .ok (.aload_n 0, 1) := by decide +kernel
theorem s59_35 {v1 v2 v3 v4 v5 v6 : Value} {l1 : Nat} {st : List Value} {im : IM} {rm : RM}  : ev 59 35 [.ref l1, v1, v2, v3, v4, v5, v6] st im rm = ev 59 36 [.ref l1, v1, v2, v3, v4, v5, v6] (.ref l1 :: st) (im) (rm) := ev_aload_n pm_m59 d59_35 rfl rfl
theorem d59_36 : decode prog_1_method_20_code 36 = .ok (.iload 5, 2) := by decide +kernel
theorem s59_36 {v0 v1 v2 v3 v4 v6 : Value} {l1 : Int32} {st : List Value} {im : IM} {rm : RM}  : ev 59 36 [v0, v1, v2, v3, v4, .int l1, v6] st im rm = ev 59 38 [v0, v1, v2, v3, v4, .int l1, v6] (.int l1 :: st) (im) (rm) := ev_iload pm_m59 d59_36 rfl rfl
theorem d59_38 : decode prog_1_method_20_code 38 = .ok (.iload_n 2, 1) := by decide +kernel
theorem s59_38 {v0 v1 v3 v4 v5 v6 : Value} {l1 : Int32} {st : List Value} {im : IM} {rm : RM}  : ev 59 38 [v0, v1, .int l1, v3, v4, v5, v6] st im rm = ev 59 39 [v0, v1, .int l1, v3, v4, v5, v6] (.int l1 :: st) (im) (rm) := ev_iload_n pm_m59 d59_38 rfl rfl
theorem d59_39 : decode prog_1_method_20_code 39 = .ok (.invokevirtual 236, 3) := by decide +kernel
theorem s59_39 {v0 v1 v2 v3 v4 v5 v6 : Value} {a : Nat} {p1 : Int32} {p2 : Int32} {im : IM} {rm : RM} (hk : kd a = 17) : ev 59 39 [v0, v1, v2, v3, v4, v5, v6] [.int p2, .int p1, .ref a] im rm = (ev 92 0 [.ref a, .int p1, .int p2, pm_u, pm_u, pm_u, pm_u] [] im rm).bind (fun r => ev 59 42 [v0, v1, v2, v3, v4, v5, v6] (r.1.toList ++ []) r.2.1 r.2.2) := ev_callV pm_m59 d59_39 l7_236 rfl pm_m92 (by decide) hk rfl ⟨rfl, rfl⟩ rfl rfl
theorem d59_42 : decode prog_1_method_20_code 42 = .ok (.istore 6, 2) := by decide +kernel
theorem s59_42 {v0 v1 v2 v3 v4 v6 : Value} {l1 : Int32} {x2 : Int32} {st : List Value} {im : IM} {rm : RM}  : ev 59 42 [v0, v1, v2, v3, v4, .int l1, v6] (.int x2 :: st) im rm = ev 59 44 [v0, v1, v2, v3, v4, .int l1, .int x2] st (im) (rm) := ev_istore pm_m59 d59_42 (Nat.le_of_ble_eq_true rfl) rfl rfl
theorem d59_44 : decode prog_1_method_20_code 44 = .ok (.iload 6, 2) := by decide +kernel
theorem s59_44 {v0 v1 v2 v3 v4 v5 : Value} {l1 : Int32} {st : List Value} {im : IM} {rm : RM}  : ev 59 44 [v0, v1, v2, v3, v4, v5, .int l1] st im rm = ev 59 46 [v0, v1, v2, v3, v4, v5, .int l1] (.int l1 :: st) (im) (rm) := ev_iload pm_m59 d59_44 rfl rfl
theorem d59_46 : decode prog_1_method_20_code 46 = .ok (.iload 4, 2) := by decide +kernel
theorem s59_46 {v0 v1 v2 v3 v5 v6 : Value} {l1 : Int32} {st : List Value} {im : IM} {rm : RM}  : ev 59 46 [v0, v1, v2, v3, .int l1, v5, v6] st im rm = ev 59 48 [v0, v1, v2, v3, .int l1, v5, v6] (.int l1 :: st) (im) (rm) := ev_iload pm_m59 d59_46 rfl rfl
theorem d59_48 : decode prog_1_method_20_code 48 = .ok (.if_icmp .le 10, 3) := by decide +kernel
theorem s59_48 {v0 v1 v2 v3 v4 v5 v6 : Value} {x : Int32} {y : Int32} {st : List Value} {im : IM} {rm : RM} : ev 59 48 [v0, v1, v2, v3, v4, v5, v6] (.int y :: .int x :: st) im rm = if x ≤ y then ev 59 58 [v0, v1, v2, v3, v4, v5, pm_u] st im rm else ev 59 51 [v0, v1, v2, v3, v4, v5, v6] st im rm := ev_icmp_le pm_m59 d59_48 rfl rfl rfl
theorem d59_51 : decode prog_1_method_20_code 51 = .ok (.iload 5, 2) := by decide +kernel
theorem s59_51 {v0 v1 v2 v3 v4 v6 : Value} {l1 : Int32} {st : List Value} {im : IM} {rm : RM}  : ev 59 51 [v0, v1, v2, v3, v4, .int l1, v6] st im rm = ev 59 53 [v0, v1, v2, v3, v4, .int l1, v6] (.int l1 :: st) (im) (rm) := ev_iload pm_m59 d59_51 rfl rfl
theorem d59_53 : decode prog_1_method_20_code 53 = .ok (.istore_n 3, 1) := by decide +kernel
theorem s59_53 {v0 v1 v3 v4 v5 v6 : Value} {l1 : Int32} {x2 : Int32} {st : List Value} {im : IM} {rm : RM}  : ev 59 53 [v0, v1, .int l1, v3, v4, v5, v6] (.int x2 :: st) im rm = ev 59 54 [v0, v1, .int l1, .int x2, v4, v5, v6] st (im) (rm) := ev_istore_n pm_m59 d59_53 (Nat.le_of_ble_eq_true rfl) rfl rfl
theorem d59_54 : decode prog_1_method_20_code 54 = .ok (.iload 6, 2) := by decide +kernel
theorem s59_54 {v0 v1 v2 v3 v4 v5 : Value} {l1 : Int32} {st : List Value} {im : IM} {rm : RM}  : ev 59 54 [v0, v1, v2, v3, v4, v5, .int l1] st im rm = ev 59 56 [v0, v1, v2, v3, v4, v5, .int l1] (.int l1 :: st) (im) (rm) := ev_iload pm_m59 d59_54 rfl rfl
theorem d59_56 : decode prog_1_method_20_code 56 = .ok (.istore 4, 2) := by decide +kernel
theorem s59_56 {v0 v1 v2 v4 v5 v6 : Value} {l1 : Int32} {x2 : Int32} {st : List Value} {im : IM} {rm : RM}  : ev 59 56 [v0, v1, v2, .int l1, v4, v5, v6] (.int x2 :: st) im rm = ev 59 58 [v0, v1, v2, .int l1, .int x2, v5, pm_u] st (im) (rm) := ev_istore pm_m59 d59_56 (Nat.le_of_ble_eq_true rfl) rfl rfl
theorem d59_58 : decode prog_1_method_20_code 58 = .ok (.iinc 5 1, 3) := by decide +kernel
theorem s59_58 {v0 v1 v2 v3 v6 : Value} {l1 : Int32} {l2 : Int32} {st : List Value} {im : IM} {rm : RM}  : ev 59 58 [v0, v1, v2, v3, .int l1, .int l2, v6] st im rm = ev 59 61 [v0, v1, v2, v3, .int l1, .int (l2 + nI 1), v6] st (im) (rm) := ev_iinc pm_m59 d59_58 rfl rfl rfl rfl
theorem d59_61 : decode prog_1_method_20_code 61 = .ok (.goto (-33), 3) := by decide +kernel
theorem s59_61 {v0 v1 v2 v3 v4 v5 v6 : Value}  {st : List Value} {im : IM} {rm : RM}  : ev 59 61 [v0, v1, v2, v3, v4, v5, v6] st im rm = ev 59 28 [v0, v1, v2, v3, v4, v5, pm_u] st (im) (rm) := ev_goto pm_m59 d59_61 rfl rfl
theorem d59_64 : decode prog_1_method_20_code 64 = .ok (.iload_n 1, 1) := by decide +kernel
theorem s59_64 {v0 v2 v3 v4 v5 v6 : Value} {l1 : Int32} {st : List Value} {im : IM} {rm : RM}  : ev 59 64 [v0, .int l1, v2, v3, v4, v5, v6] st im rm = ev 59 65 [v0, .int l1, v2, v3, v4, v5, v6] (.int l1 :: st) (im) (rm) := ev_iload_n pm_m59 d59_64 rfl rfl
theorem d59_65 : decode prog_1_method_20_code 65 = .ok (.ifCond .ne 7, 3) := by decide +kernel
theorem s59_65 {v0 v1 v2 v3 v4 v5 v6 : Value} {x : Int32} {st : List Value} {im : IM} {rm : RM} : ev 59 65 [v0, v1, v2, v3, v4, v5, v6] (.int x :: st) im rm = if x = nI 0 then ev 59 68 [v0, v1, v2, v3, v4, v5, v6] st im rm else ev 59 72 [pm_u, pm_u, pm_u, pm_u, v4, pm_u, pm_u] st im rm := ev_if_ne (y := 0) pm_m59 d59_65 rfl rfl rfl
theorem d59_68 : decode prog_1_method_20_code 68 = .ok (.iload_n 3, 1) := by decide +kernel
theorem s59_68 {v0 v1 v2 v4 v5 v6 : Value} {l1 : Int32} {st : List Value} {im : IM} {rm : RM}  : ev 59 68 [v0, v1, v2, .int l1, v4, v5, v6] st im rm = ev 59 69 [v0, v1, v2, .int l1, v4, v5, v6] (.int l1 :: st) (im) (rm) := ev_iload_n pm_m59 d59_68 rfl rfl
theorem d59_69 : decode prog_1_method_20_code 69 = .ok (.goto 5, 3) := by decide +kernel
theorem s59_69 {v0 v1 v2 v3 v4 v5 v6 : Value}  {st : List Value} {im : IM} {rm : RM}  : ev 59 69 [v0, v1, v2, v3, v4, v5, v6] st im rm = ev 59 74 [pm_u, pm_u, pm_u, pm_u, pm_u, pm_u, pm_u] st (im) (rm) := ev_goto pm_m59 d59_69 rfl rfl
theorem d59_72 : decode prog_1_method_20_code 72 = .ok (.iload 4, 2) := by decide +kernel
theorem s59_72 {v0 v1 v2 v3 v5 v6 : Value} {l1 : Int32} {st : List Value} {im : IM} {rm : RM}  : ev 59 72 [v0, v1, v2, v3, .int l1, v5, v6] st im rm = ev 59 74 [pm_u, pm_u, pm_u, pm_u, pm_u, pm_u, pm_u] (.int l1 :: st) (im) (rm) := ev_iload pm_m59 d59_72 rfl rfl
theorem d59_74 : decode prog_1_method_20_code 74 = .ok (.ireturn, 1) := by decide +kernel
theorem s59_74 {v0 v1 v2 v3 v4 v5 v6 : Value} {x : Int32} {im : IM} {rm : RM} : ev 59 74 [v0, v1, v2, v3, v4, v5, v6] [.int x] im rm = some (some (.int x), im, rm) := ev_ireturn pm_m59 d59_74 rfl
theorem d60_0 : decode prog_1_method_21_code 0 = .ok (.iload_n 1, 1) := by decide +kernel
theorem s60_0 {v0 v2 : Value} {l1 : Int32} {st : List Value} {im : IM} {rm : RM}  : ev 60 0 [v0, .int l1, v2] st im rm = ev 60 1 [v0, .int l1, v2] (.int l1 :: st) (im) (rm) := ev_iload_n pm_m60 d60_0 rfl rfl
theorem d60_1 : decode prog_1_method_21_code 1 = .ok (.iconst 4, 1) := by decide +kernel
theorem s60_1 {v0 v1 v2 : Value}  {st : List Value} {im : IM} {rm : RM}  : ev 60 1 [v0, v1, v2] st im rm = ev 60 2 [v0, v1, v2] (.int (nI 4) :: st) (im) (rm) := ev_iconst pm_m60 d60_1 rfl rfl
theorem d60_2 : decode prog_1_method_21_code 2 = .ok (.invokestatic 109, 3) := by decide +kernel
theorem s60_2 {v0 v1 v2 : Value} {p1 : Int32} {p2 : Int32} {im : IM} {rm : RM}  : ev 60 2 [v0, v1, v2] [.int p2, .int p1] im rm = (ev 75 0 [.int p1, .int p2] [] im rm).bind (fun r => ev 60 5 [v0, v1, v2] (r.1.toList ++ []) r.2.1 r.2.2) := ev_callS pm_m60 d60_2 (by decide) l7_109 rfl pm_m75 rfl ⟨rfl, rfl⟩ rfl rfl
theorem d60_5 : decode prog_1_method_21_code 5 = .ok (.ifCond .eq 11, 3) := by decide +kernel
theorem s60_5 {v0 v1 v2 : Value} {x : Int32} {st : List Value} {im : IM} {rm : RM} : ev 60 5 [v0, v1, v2] (.int x :: st) im rm = if x = nI 0 then ev 60 16 [pm_u, pm_u, pm_u] st im rm else ev 60 8 [v0, v1, v2] st im rm := ev_if_eq (y := 0) pm_m60 d60_5 rfl rfl rfl
theorem d60_8 : decode prog_1_method_21_code 8 = .ok (.iload_n 2, 1) := by decide +kernel
theorem s60_8 {v0 v1 : Value} {l1 : Int32} {st : List Value} {im : IM} {rm : RM}  : ev 60 8 [v0, v1, .int l1] st im rm = ev 60 9 [v0, v1, .int l1] (.int l1 :: st) (im) (rm) := ev_iload_n pm_m60 d60_8 rfl rfl
theorem d60_9 : decode prog_1_method_21_code 9 = .ok (.iconst 2, 1) := by decide +kernel
theorem s60_9 {v0 v1 v2 : Value}  {st : List Value} {im : IM} {rm : RM}  : ev 60 9 [v0, v1, v2] st im rm = ev 60 10 [v0, v1, v2] (.int (nI 2) :: st) (im) (rm) := ev_iconst pm_m60 d60_9 rfl rfl
theorem d60_10 : decode prog_1_method_21_code 10 = .ok (.invokestatic 109, 3) := by decide +kernel
theorem s60_10 {v0 v1 v2 : Value} {p1 : Int32} {p2 : Int32} {im : IM} {rm : RM}  : ev 60 10 [v0, v1, v2] [.int p2, .int p1] im rm = (ev 75 0 [.int p1, .int p2] [] im rm).bind (fun r => ev 60 13 [v0, v1, v2] (r.1.toList ++ []) r.2.1 r.2.2) := ev_callS pm_m60 d60_10 (by decide) l7_109 rfl pm_m75 rfl ⟨rfl, rfl⟩ rfl rfl
theorem d60_13 : decode prog_1_method_21_code 13 = .ok (.ifCond .ne 6, 3) := by decide +kernel
theorem s60_13 {v0 v1 v2 : Value} {x : Int32} {st : List Value} {im : IM} {rm : RM} : ev 60 13 [v0, v1, v2] (.int x :: st) im rm = if x = nI 0 then ev 60 16 [pm_u, pm_u, pm_u] st im rm else ev 60 19 [v0, v1, v2] st im rm := ev_if_ne (y := 0) pm_m60 d60_13 rfl rfl rfl
theorem d60_16 : decode prog_1_method_21_code 16 = .ok (.bipush (-2), 2) := by decide +kernel
theorem s60_16 {v0 v1 v2 : Value}  {st : List Value} {im : IM} {rm : RM}  : ev 60 16 [v0, v1, v2] st im rm = ev 60 18 [v0, v1, v2] (.int ((-2 : Int32)) :: st) (im) (rm) := ev_bipush pm_m60 d60_16 rfl rfl
theorem d60_18 : decode prog_1_method_21_code 18 = .ok (.ireturn, 1) := by decide +kernel
theorem s60_18 {v0 v1 v2 : Value} {x : Int32} {im : IM} {rm : RM} : ev 60 18 [v0, v1, v2] [.int x] im rm = some (some (.int x), im, rm) := ev_ireturn pm_m60 d60_18 rfl
theorem d60_19 : decode prog_1_method_21_code 19 = .ok (.aload_n 0, 1) := by decide +kernel
theorem s60_19 {v1 v2 : Value} {l1 : Nat} {st : List Value} {im : IM} {rm : RM}  : ev 60 19 [.ref l1, v1, v2] st im rm = ev 60 20 [.ref l1, v1, v2] (.ref l1 :: st) (im) (rm) := ev_aload_n pm_m60 d60_19 rfl rfl
theorem d60_20 : decode prog_1_method_21_code 20 = .ok (.iload_n 1, 1) := by decide +kernel
theorem s60_20 {v0 v2 : Value} {l1 : Int32} {st : List Value} {im : IM} {rm : RM}  : ev 60 20 [v0, .int l1, v2] st im rm = ev 60 21 [v0, .int l1, v2] (.int l1 :: st) (im) (rm) := ev_iload_n pm_m60 d60_20 rfl rfl
theorem d60_21 : decode prog_1_method_21_code 21 = .ok (.invokevirtual 240, 3) := by decide +kernel
theorem s60_21 {v0 v1 v2 : Value} {a : Nat} {p1 : Int32} {im : IM} {rm : RM} (hk : kd a = 17) : ev 60 21 [v0, v1, v2] [.int p1, .ref a] im rm = (ev 81 0 [.ref a, .int p1, pm_u] [] im rm).bind (fun r => ev 60 24 [v0, v1, v2] (r.1.toList ++ []) r.2.1 r.2.2) := ev_callV pm_m60 d60_21 l7_240 rfl pm_m81 (by decide) hk rfl ⟨rfl, rfl⟩ rfl rfl
theorem d60_24 : decode prog_1_method_21_code 24 = .ok (.aload_n 0, 1) := by decide +kernel
theorem s60_24 {v1 v2 : Value} {l1 : Nat} {st : List Value} {im : IM} {rm : RM}  : ev 60 24 [.ref l1, v1, v2] st im rm = ev 60 25 [.ref l1, v1, v2] (.ref l1 :: st) (im) (rm) := ev_aload_n pm_m60 d60_24 rfl rfl
theorem d60_25 : decode prog_1_method_21_code 25 = .ok (.iload_n 1, 1) := by decide +kernel
theorem s60_25 {v0 v2 : Value} {l1 : Int32} {st : List Value} {im : IM} {rm : RM}  : ev 60 25 [v0, .int l1, v2] st im rm = ev 60 26 [v0, .int l1, v2] (.int l1 :: st) (im) (rm) := ev_iload_n pm_m60 d60_25 rfl rfl
theorem d60_26 : decode prog_1_method_21_code 26 = .ok (.iload_n 2, 1) := by decide +kernel
theorem s60_26 {v0 v1 : Value} {l1 : Int32} {st : List Value} {im : IM} {rm : RM}  : ev 60 26 [v0, v1, .int l1] st im rm = ev 60 27 [v0, v1, .int l1] (.int l1 :: st) (im) (rm) := ev_iload_n pm_m60 d60_26 rfl rfl
theorem d60_27 : decode prog_1_method_21_code 27 = .ok (.invokevirtual 243, 3) := by decide +kernel
theorem s60_27 {v0 v1 v2 : Value} {a : Nat} {p1 : Int32} {p2 : Int32} {im : IM} {rm : RM} (hk : kd a = 17) : ev 60 27 [v0, v1, v2] [.int p2, .int p1, .ref a] im rm = (ev 93 0 [.ref a, .int p1, .int p2, pm_u, pm_u, pm_u, pm_u, pm_u, pm_u, pm_u] [] im rm).bind (fun r => ev 60 30 [v0, v1, v2] (r.1.toList ++ []) r.2.1 r.2.2) := ev_callV pm_m60 d60_27 l7_243 rfl pm_m93 (by decide) hk rfl ⟨rfl, rfl⟩ rfl rfl
theorem d60_30 : decode prog_1_method_21_code 30 = .ok (.ireturn, 1) := by decide +kernel
theorem s60_30 {v0 v1 v2 : Value} {x : Int32} {im : IM} {rm : RM} : ev 60 30 [v0, v1, v2] [.int x] im rm = some (some (.int x), im, rm) := ev_ireturn pm_m60 d60_30 rfl
theorem d61_0 : decode prog_1_method_22_code 0 = .ok (.iload_n 1, 1) := by decide +kernel
theorem s61_0 {v0 v2 v3 v4 v5 v6 v7 : Value} {l1 : Int32} {st : List Value} {im : IM} {rm : RM}  : ev 61 0 [v0, .int l1, v2, v3, v4, v5, v6, v7] st im rm = ev 61 1 [v0, .int l1, v2, v3, v4, v5, v6, v7] (.int l1 :: st) (im) (rm) := ev_iload_n pm_m61 d61_0 rfl rfl
theorem d61_1 : decode prog_1_method_22_code 1 = .ok (.iconst 4, 1) := by decide +kernel
theorem s61_1 {v0 v1 v2 v3 v4 v5 v6 v7 : Value}  {st : List Value} {im : IM} {rm : RM}  : ev 61 1 [v0, v1, v2, v3, v4, v5, v6, v7] st im rm = ev 61 2 [v0, v1, v2, v3, v4, v5, v6, v7] (.int (nI 4) :: st) (im) (rm) := ev_iconst pm_m61 d61_1 rfl rfl
theorem d61_2 : decode prog_1_method_22_code 2 = .ok (.invokestatic 109, 3) := by decide +kernel
theorem s61_2 {v0 v1 v2 v3 v4 v5 v6 v7 : Value} {p1 : Int32} {p2 : Int32} {im : IM} {rm : RM}  : ev 61 2 [v0, v1, v2, v3, v4, v5, v6, v7] [.int p2, .int p1] im rm = (ev 75 0 [.int p1, .int p2] [] im rm).bind (fun r => ev 61 5 [v0, v1, v2, v3, v4, v5, v6, v7] (r.1.toList ++ []) r.2.1 r.2.2) := ev_callS pm_m61 d61_2 (by decide) l7_109 rfl pm_m75 rfl ⟨rfl, rfl⟩ rfl rfl
theorem d61_5 : decode prog_1_method_22_code 5 = .ok (.ifCond .eq 11, 3) := by decide +kernel
theorem s61_5 {v0 v1 v2 v3 v4 v5 v6 v7 : Value} {x : Int32} {st : List Value} {im : IM} {rm : RM} : ev 61 5 [v0, v1, v2, v3, v4, v5, v6, v7] (.int x :: st) im rm = if x = nI 0 then ev 61 16 [pm_u, pm_u, pm_u, pm_u, pm_u, pm_u, pm_u, pm_u] st im rm else ev 61 8 [v0, v1, v2, v3, v4, v5, v6, v7] st im rm := ev_if_eq (y := 0) pm_m61 d61_5 rfl rfl rfl
theorem d61_8 : decode prog_1_method_22_code 8 = .ok (.iload_n 2, 1) := by decide +kernel
theorem s61_8 {v0 v1 v3 v4 v5 v6 v7 : Value} {l1 : Int32} {st : List Value} {im : IM} {rm : RM}  : ev 61 8 [v0, v1, .int l1, v3, v4, v5, v6, v7] st im rm = ev 61 9 [v0, v1, .int l1, v3, v4, v5, v6, v7] (.int l1 :: st) (im) (rm) := ev_iload_n pm_m61 d61_8 rfl rfl
theorem d61_9 : decode prog_1_method_22_code 9 = .ok (.iconst 4, 1) := by decide +kernel
theorem s61_9 {v0 v1 v2 v3 v4 v5 v6 v7 : Value}  {st : List Value} {im : IM} {rm : RM}  : ev 61 9 [v0, v1, v2, v3, v4, v5, v6, v7] st im rm = ev 61 10 [v0, v1, v2, v3, v4, v5, v6, v7] (.int (nI 4) :: st) (im) (rm) := ev_iconst pm_m61 d61_9 rfl rfl
theorem d61_10 : decode prog_1_method_22_code 10 = .ok (.invokestatic 109, 3) := by decide +kernel
theorem s61_10 {v0 v1 v2 v3 v4 v5 v6 v7 : Value} {p1 : Int32} {p2 : Int32} {im : IM} {rm : RM}  : ev 61 10 [v0, v1, v2, v3, v4, v5, v6, v7] [.int p2, .int p1] im rm = (ev 75 0 [.int p1, .int p2] [] im rm).bind (fun r => ev 61 13 [v0, v1, v2, v3, v4, v5, v6, v7] (r.1.toList ++ []) r.2.1 r.2.2) := ev_callS pm_m61 d61_10 (by decide) l7_109 rfl pm_m75 rfl ⟨rfl, rfl⟩ rfl rfl
theorem d61_13 : decode prog_1_method_22_code 13 = .ok (.ifCond .ne 6, 3) := by decide +kernel
theorem s61_13 {v0 v1 v2 v3 v4 v5 v6 v7 : Value} {x : Int32} {st : List Value} {im : IM} {rm : RM} : ev 61 13 [v0, v1, v2, v3, v4, v5, v6, v7] (.int x :: st) im rm = if x = nI 0 then ev 61 16 [pm_u, pm_u, pm_u, pm_u, pm_u, pm_u, pm_u, pm_u] st im rm else ev 61 19 [v0, v1, v2, v3, v4, pm_u, pm_u, pm_u] st im rm := ev_if_ne (y := 0) pm_m61 d61_13 rfl rfl rfl
theorem d61_16 : decode prog_1_method_22_code 16 = .ok (.bipush (-2), 2) := by decide +kernel
theorem s61_16 {v0 v1 v2 v3 v4 v5 v6 v7 : Value}  {st : List Value} {im : IM} {rm : RM}  : ev 61 16 [v0, v1, v2, v3, v4, v5, v6, v7] st im rm = ev 61 18 [v0, v1, v2, v3, v4, v5, v6, v7] (.int ((-2 : Int32)) :: st) (im) (rm) := ev_bipush pm_m61 d61_16 rfl rfl
theorem d61_18 : decode prog_1_method_22_code 18 = .ok (.ireturn, 1) := by decide +kernel
theorem s61_18 {v0 v1 v2 v3 v4 v5 v6 v7 : Value} {x : Int32} {im : IM} {rm : RM} : ev 61 18 [v0, v1, v2, v3, v4, v5, v6, v7] [.int x] im rm = some (some (.int x), im, rm) := ev_ireturn pm_m61 d61_18 rfl
theorem d61_19 : decode prog_1_method_22_code 19 = .ok (.iload_n 3, 1) := by decide +kernel
theorem s61_19 {v0 v1 v2 v4 v5 v6 v7 : Value} {l1 : Int32} {st : List Value} {im : IM} {rm : RM}  : ev 61 19 [v0, v1, v2, .int l1, v4, v5, v6, v7] st im rm = ev 61 20 [v0, v1, v2, .int l1, v4, v5, v6, v7] (.int l1 :: st) (im) (rm) := ev_iload_n pm_m61 d61_19 rfl rfl
theorem d61_20 : decode prog_1_method_22_code 20 = .ok (.bipush 61, 2) := by decide +kernel
theorem s61_20 {v0 v1 v2 v3 v4 v5 v6 v7 : Value}  {st : List Value} {im : IM} {rm : RM}  : ev 61 20 [v0, v1, v2, v3, v4, v5, v6, v7] st im rm = ev 61 22 [v0, v1, v2, v3, v4, v5, v6, v7] (.int (nI 61) :: st) (im) (rm) := ev_bipush pm_m61 d61_20 rfl rfl
theorem d61_22 : decode prog_1_method_22_code 22 = .ok (.invokestatic 117, 3) := by decide +kernel
theorem s61_22 {v0 v1 v2 v3 v4 v5 v6 v7 : Value} {p1 : Int32} {p2 : Int32} {im : IM} {rm : RM}  : ev 61 22 [v0, v1, v2, v3, v4, v5, v6, v7] [.int p2, .int p1] im rm = (ev 76 0 [.int p1, .int p2] [] im rm).bind (fun r => ev 61 25 [v0, v1, v2, v3, v4, v5, v6, v7] (r.1.toList ++ []) r.2.1 r.2.2) := ev_callS pm_m61 d61_22 (by decide) l7_117 rfl pm_m76 rfl ⟨rfl, rfl⟩ rfl rfl
theorem d61_25 : decode prog_1_method_22_code 25 = .ok (.ifCond .eq 12, 3) := by decide +kernel
theorem s61_25 {v0 v1 v2 v3 v4 v5 v6 v7 : Value} {x : Int32} {st : List Value} {im : IM} {rm : RM} : ev 61 25 [v0, v1, v2, v3, v4, v5, v6, v7] (.int x :: st) im rm = if x = nI 0 then ev 61 37 [pm_u, pm_u, pm_u, pm_u, pm_u, pm_u, pm_u, pm_u] st im rm else ev 61 28 [v0, v1, v2, v3, v4, v5, v6, v7] st im rm := ev_if_eq (y := 0) pm_m61 d61_25 rfl rfl rfl
theorem d61_28 : decode prog_1_method_22_code 28 = .ok (.iload 4, 2) := by decide +kernel
theorem s61_28 {v0 v1 v2 v3 v5 v6 v7 : Value} {l1 : Int32} {st : List Value} {im : IM} {rm : RM}  : ev 61 28 [v0, v1, v2, v3, .int l1, v5, v6, v7] st im rm = ev 61 30 [v0, v1, v2, v3, .int l1, v5, v6, v7] (.int l1 :: st) (im) (rm) := ev_iload pm_m61 d61_28 rfl rfl
theorem d61_30 : decode prog_1_method_22_code 30 = .ok (.iconst 2, 1) := by decide +kernel
theorem s61_30 {v0 v1 v2 v3 v4 v5 v6 v7 : Value}  {st : List Value} {im : IM} {rm : RM}  : ev 61 30 [v0, v1, v2, v3, v4, v5, v6, v7] st im rm = ev 61 31 [v0, v1, v2, v3, v4, v5, v6, v7] (.int (nI 2) :: st) (im) (rm) := ev_iconst pm_m61 d61_30 rfl rfl
theorem d61_31 : decode prog_1_method_22_code 31 = .ok (.invokestatic 109, 3) := by decide +kernel
theorem s61_31 {v0 v1 v2 v3 v4 v5 v6 v7 : Value} {p1 : Int32} {p2 : Int32} {im : IM} {rm : RM}  : ev 61 31 [v0, v1, v2, v3, v4, v5, v6, v7] [.int p2, .int p1] im rm = (ev 75 0 [.int p1, .int p2] [] im rm).bind (fun r => ev 61 34 [v0, v1, v2, v3, v4, v5, v6, v7] (r.1.toList ++ []) r.2.1 r.2.2) := ev_callS pm_m61 d61_31 (by decide) l7_109 rfl pm_m75 rfl ⟨rfl, rfl⟩ rfl rfl
theorem d61_34 : decode prog_1_method_22_code 34 = .ok (.ifCond .ne 6, 3) := by decide +kernel
theorem s61_34 {v0 v1 v2 v3 v4 v5 v6 v7 : Value} {x : Int32} {st : List Value} {im : IM} {rm : RM} : ev 61 34 [v0, v1, v2, v3, v4, v5, v6, v7] (.int x :: st) im rm = if x = nI 0 then ev 61 37 [pm_u, pm_u, pm_u, pm_u, pm_u, pm_u, pm_u, pm_u] st im rm else ev 61 40 [v0, v1, v2, v3, v4, pm_u, pm_u, pm_u] st im rm := ev_if_ne (y := 0) pm_m61 d61_34 rfl rfl rfl
theorem d61_37 : decode prog_1_method_22_code 37 = .ok (.bipush (-3), 2) := by decide +kernel
theorem s61_37 {v0 v1 v2 v3 v4 v5 v6 v7 : Value}  {st : List Value} {im : IM} {rm : RM}  : ev 61 37 [v0, v1, v2, v3, v4, v5, v6, v7] st im rm = ev 61 39 [v0, v1, v2, v3, v4, v5, v6, v7] (.int ((-3 : Int32)) :: st) (im) (rm) := ev_bipush pm_m61 d61_37 rfl rfl
theorem d61_39 : decode prog_1_method_22_code 39 = .ok (.ireturn, 1) := by decide +kernel
theorem s61_39 {v0 v1 v2 v3 v4 v5 v6 v7 : Value} {x : Int32} {im : IM} {rm : RM} : ev 61 39 [v0, v1, v2, v3, v4, v5, v6, v7] [.int x] im rm = some (some (.int x), im, rm) := ev_ireturn pm_m61 d61_39 rfl
theorem d61_40 : decode prog_1_method_22_code 40 = .ok (.iload 4, 2) := by decide +kernel
theorem s61_40 {v0 v1 v2 v3 v5 v6 v7 : Value} {l1 : Int32} {st : List Value} {im : IM} {rm : RM}  : ev 61 40 [v0, v1, v2, v3, .int l1, v5, v6, v7] st im rm = ev 61 42 [v0, v1, v2, v3, .int l1, v5, v6, v7] (.int l1 :: st) (im) (rm) := ev_iload pm_m61 d61_40 rfl rfl
theorem d61_42 : decode prog_1_method_22_code 42 = .ok (.ifCond .ne 7, 3) := by decide +kernel
theorem s61_42 {v0 v1 v2 v3 v4 v5 v6 v7 : Value} {x : Int32} {st : List Value} {im : IM} {rm : RM} : ev 61 42 [v0, v1, v2, v3, v4, v5, v6, v7] (.int x :: st) im rm = if x = nI 0 then ev 61 45 [v0, v1, v2, v3, v4, v5, v6, v7] st im rm else ev 61 49 [v0, v1, v2, pm_u, pm_u, pm_u, pm_u, pm_u] st im rm := ev_if_ne (y := 0) pm_m61 d61_42 rfl rfl rfl
theorem d61_45 : decode prog_1_method_22_code 45 = .ok (.iload_n 3, 1) := by decide +kernel
theorem s61_45 {v0 v1 v2 v4 v5 v6 v7 : Value} {l1 : Int32} {st : List Value} {im : IM} {rm : RM}  : ev 61 45 [v0, v1, v2, .int l1, v4, v5, v6, v7] st im rm = ev 61 46 [v0, v1, v2, .int l1, v4, v5, v6, v7] (.int l1 :: st) (im) (rm) := ev_iload_n pm_m61 d61_45 rfl rfl
theorem d61_46 : decode prog_1_method_22_code 46 = .ok (.goto 5, 3) := by decide +kernel
theorem s61_46 {v0 v1 v2 v3 v4 v5 v6 v7 : Value}  {st : List Value} {im : IM} {rm : RM}  : ev 61 46 [v0, v1, v2, v3, v4, v5, v6, v7] st im rm = ev 61 51 [v0, v1, v2, pm_u, pm_u, pm_u, pm_u, pm_u] st (im) (rm) := ev_goto pm_m61 d61_46 rfl rfl
theorem d61_49 : decode prog_1_method_22_code 49 = .ok (.bipush 61, 2) := by decide +kernel
theorem s61_49 {v0 v1 v2 v3 v4 v5 v6 v7 : Value}  {st : List Value} {im : IM} {rm : RM}  : ev 61 49 [v0, v1, v2, v3, v4, v5, v6, v7] st im rm = ev 61 51 [v0, v1, v2, pm_u, pm_u, pm_u, pm_u, pm_u] (.int (nI 61) :: st) (im) (rm) := ev_bipush pm_m61 d61_49 rfl rfl
theorem d61_51 : decode prog_1_method_22_code 51 = .ok (.istore 5, 2) := by decide +kernel
theorem s61_51 {v0 v1 v2 v3 v5 v6 v7 : Value} {x1 : Int32} {st : List Value} {im : IM} {rm : RM}  : ev 61 51 [v0, v1, v2, v3, pm_u, v5, v6, v7] (.int x1 :: st) im rm = ev 61 53 [v0, v1, v2, v3, pm_u, .int x1, v6, v7] st (im) (rm) := ev_istore pm_m61 d61_51 (Nat.le_of_ble_eq_true rfl) rfl rfl
theorem d61_53 : decode prog_1_method_22_code 53 = .ok (.iconst 0, 1) := by decide +kernel
theorem s61_53 {v0 v1 v2 v3 v4 v5 v6 v7 : Value}  {st : List Value} {im : IM} {rm : RM}  : ev 61 53 [v0, v1, v2, v3, v4, v5, v6, v7] st im rm = ev 61 54 [v0, v1, v2, v3, v4, v5, v6, v7] (.int (nI 0) :: st) (im) (rm) := ev_iconst pm_m61 d61_53 rfl rfl
theorem d61_54 : decode prog_1_method_22_code 54 = .ok (.istore 6, 2) := by decide +kernel
theorem s61_54 {v0 v1 v2 v3 v4 v6 v7 : Value} {l1 : Int32} {x2 : Int32} {st : List Value} {im : IM} {rm : RM}  : ev 61 54 [v0, v1, v2, v3, v4, .int l1, v6, v7] (.int x2 :: st) im rm = ev 61 56 [v0, v1, v2, v3, v4, .int l1, .int x2, v7] st (im) (rm) := ev_istore pm_m61 d61_54 (Nat.le_of_ble_eq_true rfl) rfl rfl
theorem d61_56 : decode prog_1_method_22_code 56 = .ok (.iconst 0, 1) := by decide +kernel
theorem s61_56 {v0 v1 v2 v3 v4 v5 v6 v7 : Value}  {st : List Value} {im : IM} {rm : RM}  : ev 61 56 [v0, v1, v2, v3, v4, v5, v6, v7] st im rm = ev 61 57 [v0, v1, v2, v3, v4, v5, v6, v7] (.int (nI 0) :: st) (im) (rm) := ev_iconst pm_m61 d61_56 rfl rfl
theorem d61_57 : decode prog_1_method_22_code 57 = .ok (.istore 7, 2) := by decide +kernel
theorem s61_57 {v0 v1 v2 v3 v4 v5 v7 : Value} {l1 : Int32} {x2 : Int32} {st : List Value} {im : IM} {rm : RM}  : ev 61 57 [v0, v1, v2, v3, v4, v5, .int l1, v7] (.int x2 :: st) im rm = ev 61 59 [v0, v1, v2, pm_u, pm_u, v5, .int l1, .int x2] st (im) (rm) := ev_istore pm_m61 d61_57 (Nat.le_of_ble_eq_true rfl) rfl rfl
theorem d61_59 : decode prog_1_method_22_code 59 = .ok (.iload 7, 2) := by decide +kernel
theorem s61_59 {v0 v1 v2 v3 v4 v5 v6 : Value} {l1 : Int32} {st : List Value} {im : IM} {rm : RM}  : ev 61 59 [v0, v1, v2, v3, v4, v5, v6, .int l1] st im rm = ev 61 61 [v0, v1, v2, v3, v4, v5, v6, .int l1] (.int l1 :: st) (im) (rm) := ev_iload pm_m61 d61_59 rfl rfl
theorem d61_61 : decode prog_1_method_22_code 61 = .ok (.bipush 6, 2) := by decide +kernel
theorem s61_61 {v0 v1 v2 v3 v4 v5 v6 v7 : Value}  {st : List Value} {im : IM} {rm : RM}  : ev 61 61 [v0, v1, v2, v3, v4, v5, v6, v7] st im rm = ev 61 63 [v0, v1, v2, v3, v4, v5, v6, v7] (.int (nI 6) :: st) (im) (rm) := ev_bipush pm_m61 d61_61 rfl rfl
theorem d61_63 : decode prog_1_method_22_code 63 = .ok (.if_icmp .ge 49, 3) := by decide +kernel
theorem s61_63 {v0 v1 v2 v3 v4 v5 v6 v7 : Value} {x : Int32} {y : Int32} {st : List Value} {im : IM} {rm : RM} : ev 61 63 [v0, v1, v2, v3, v4, v5, v6, v7] (.int y :: .int x :: st) im rm = if y ≤ x then ev 61 112 [pm_u, pm_u, pm_u, pm_u, pm_u, pm_u, v6, pm_u] st im rm else ev 61 66 [v0, v1, v2, v3, v4, v5, v6, v7] st im rm := ev_icmp_ge pm_m61 d61_63 rfl rfl rfl
theorem d61_66 : decode prog_1_method_22_code 66 = .ok (.aload_n 0, 1) := by decide +kernel
theorem s61_66 {v1 v2 v3 v4 v5 v6 v7 : Value} {l1 : Nat} {st : List Value} {im : IM} {rm : RM}  : ev 61 66 [.ref l1, v1, v2, v3, v4, v5, v6, v7] st im rm = ev 61 67 [.ref l1, v1, v2, v3, v4, v5, v6, v7] (.ref l1 :: st) (im) (rm) := ev_aload_n pm_m61 d61_66 rfl rfl
theorem d61_67 : decode prog_1_method_22_code 67 = .ok (.getfield 11, 3) := by decide +kernel
theorem s61_67 {v0 v1 v2 v3 v4 v5 v6 v7 : Value} {a : Nat} {st : List Value} {im : IM} {rm : RM} (hk : kd a = 17) : ev 61 67 [v0, v1, v2, v3, v4, v5, v6, v7] (.ref a :: st) im rm = ev 61 70 [v0, v1, v2, v3, v4, v5, v6, v7] (pm_ro (rm a 0) :: st) (im) (rm) := ev_getR pm_m61 d61_67 f7_11 rfl hk rfl
theorem d61_70 : decode prog_1_method_22_code 70 = .ok (.iload 7, 2) := by decide +kernel
theorem s61_70 {v0 v1 v2 v3 v4 v5 v6 : Value} {l1 : Int32} {st : List Value} {im : IM} {rm : RM}  : ev 61 70 [v0, v1, v2, v3, v4, v5, v6, .int l1] st im rm = ev 61 72 [v0, v1, v2, v3, v4, v5, v6, .int l1] (.int l1 :: st) (im) (rm) := ev_iload pm_m61 d61_70 rfl rfl
theorem d61_72 : decode prog_1_method_22_code 72 = .ok (.aaload, 1) := by decide +kernel
theorem s61_72 {v0 v1 v2 v3 v4 v5 v6 v7 : Value} {a : Nat} {i : Int32} {st : List Value} {im : IM} {rm : RM} (hk : 2 ≤ kd a ∧ kd a ≤ 5) (hi : pm_in i (ln a) = true) : ev 61 72 [v0, v1, v2, v3, v4, v5, v6, v7] (.int i :: .ref a :: st) im rm = ev 61 73 [v0, v1, v2, v3, v4, v5, v6, v7] (pm_ro (rm a i.toNatClampNeg) :: st) (im) (rm) := ev_aald pm_m61 d61_72 hk hi rfl
theorem d61_73 : decode prog_1_method_22_code 73 = .ok (.getfield 246, 3) := by decide +kernel
theorem s61_73 {v0 v1 v2 v3 v4 v5 v6 v7 : Value} {a : Nat} {st : List Value} {im : IM} {rm : RM} (hk : kd a = 10) : ev 61 73 [v0, v1, v2, v3, v4, v5, v6, v7] (.ref a :: st) im rm = ev 61 76 [v0, v1, v2, v3, v4, v5, v6, v7] (.int (im a 0) :: st) (im) (rm) := ev_getI pm_m61 d61_73 f7_246 rfl hk rfl
theorem d61_76 : decode prog_1_method_22_code 76 = .ok (.iconst 1, 1) := by decide +kernel
theorem s61_76 {v0 v1 v2 v3 v4 v5 v6 v7 : Value}  {st : List Value} {im : IM} {rm : RM}  : ev 61 76 [v0, v1, v2, v3, v4, v5, v6, v7] st im rm = ev 61 77 [v0, v1, v2, v3, v4, v5, v6, v7] (.int (nI 1) :: st) (im) (rm) := ev_iconst pm_m61 d61_76 rfl rfl
theorem d61_77 : decode prog_1_method_22_code 77 = .ok (.if_icmp .ne 29, 3) := by decide +kernel
theorem s61_77 {v0 v1 v2 v3 v4 v5 v6 v7 : Value} {x : Int32} {y : Int32} {st : List Value} {im : IM} {rm : RM} : ev 61 77 [v0, v1, v2, v3, v4, v5, v6, v7] (.int y :: .int x :: st) im rm = if x = y then ev 61 80 [v0, v1, v2, v3, v4, v5, v6, v7] st im rm else ev 61 106 [v0, v1, v2, pm_u, pm_u, v5, v6, v7] st im rm := ev_icmp_ne pm_m61 d61_77 rfl rfl rfl
theorem d61_80 : decode prog_1_method_22_code 80 = .ok (.aload_n 0, 1) := by decide +kernel
theorem s61_80 {v1 v2 v3 v4 v5 v6 v7 : Value} {l1 : Nat} {st : List Value} {im : IM} {rm : RM}  : ev 61 80 [.ref l1, v1, v2, v3, v4, v5, v6, v7] st im rm = ev 61 81 [.ref l1, v1, v2, v3, v4, v5, v6, v7] (.ref l1 :: st) (im) (rm) := ev_aload_n pm_m61 d61_80 rfl rfl
theorem d61_81 : decode prog_1_method_22_code 81 = .ok (.iload_n 1, 1) := by decide +kernel
theorem s61_81 {v0 v2 v3 v4 v5 v6 v7 : Value} {l1 : Int32} {st : List Value} {im : IM} {rm : RM}  : ev 61 81 [v0, .int l1, v2, v3, v4, v5, v6, v7] st im rm = ev 61 82 [v0, .int l1, v2, v3, v4, v5, v6, v7] (.int l1 :: st) (im) (rm) := ev_iload_n pm_m61 d61_81 rfl rfl
theorem d61_82 : decode prog_1_method_22_code 82 = .ok (.iload 7, 2) := by decide +kernel
theorem s61_82 {v0 v1 v2 v3 v4 v5 v6 : Value} {l1 : Int32} {st : List Value} {im : IM} {rm : RM}  : ev 61 82 [v0, v1, v2, v3, v4, v5, v6, .int l1] st im rm = ev 61 84 [v0, v1, v2, v3, v4, v5, v6, .int l1] (.int l1 :: st) (im) (rm) := ev_iload pm_m61 d61_82 rfl rfl
theorem d61_84 : decode prog_1_method_22_code 84 = .ok (.invokevirtual 164, 3) := by decide +kernel
theorem s61_84 {v0 v1 v2 v3 v4 v5 v6 v7 : Value} {a : Nat} {p1 : Int32} {p2 : Int32} {im : IM} {rm : RM} (hk : kd a = 17) : ev 61 84 [v0, v1, v2, v3, v4, v5, v6, v7] [.int p2, .int p1, .ref a] im rm = (ev 80 0 [.ref a, .int p1, .int p2, pm_u, pm_u, pm_u, pm_u, pm_u, pm_u, pm_u, pm_u] [] im rm).bind (fun r => ev 61 87 [v0, v1, v2, v3, v4, v5, v6, v7] (r.1.toList ++ []) r.2.1 r.2.2) := ev_callV pm_m61 d61_84 l7_164 rfl pm_m80 (by decide) hk rfl ⟨rfl, rfl⟩ rfl rfl
theorem d61_87 : decode prog_1_method_22_code 87 = .ok (.iload 6, 2) := by decide +kernel
theorem s61_87 {v0 v1 v2 v3 v4 v5 v7 : Value} {l1 : Int32} {st : List Value} {im : IM} {rm : RM}  : ev 61 87 [v0, v1, v2, v3, v4, v5, .int l1, v7] st im rm = ev 61 89 [v0, v1, v2, v3, v4, v5, .int l1, v7] (.int l1 :: st) (im) (rm) := ev_iload pm_m61 d61_87 rfl rfl
theorem d61_89 : decode prog_1_method_22_code 89 = .ok (.aload_n 0, 1) := by decide +kernel
theorem s61_89 {v1 v2 v3 v4 v5 v6 v7 : Value} {l1 : Nat} {st : List Value} {im : IM} {rm : RM}  : ev 61 89 [.ref l1, v1, v2, v3, v4, v5, v6, v7] st im rm = ev 61 90 [.ref l1, v1, v2, v3, v4, v5, v6, v7] (.ref l1 :: st) (im) (rm) := ev_aload_n pm_m61 d61_89 rfl rfl
theorem d61_90 : decode prog_1_method_22_code 90 = .ok (.iload_n 2, 1) := by decide +kernel
theorem s61_90 {v0 v1 v3 v4 v5 v6 v7 : Value} {l1 : Int32} {st : List Value} {im : IM} {rm : RM}  : ev 61 90 [v0, v1, .int l1, v3, v4, v5, v6, v7] st im rm = ev 61 91 [v0, v1, .int l1, v3, v4, v5, v6, v7] (.int l1 :: st) (im) (rm) := ev_iload_n pm_m61 d61_90 rfl rfl
theorem d61_91 : decode prog_1_method_22_code 91 = .ok (.aload_n 0, 1) := by decide +kernel
theorem s61_91 {v1 v2 v3 v4 v5 v6 v7 : Value} {l1 : Nat} {st : List Value} {im : IM} {rm : RM}  : ev 61 91 [.ref l1, v1, v2, v3, v4, v5, v6, v7] st im rm = ev 61 92 [.ref l1, v1, v2, v3, v4, v5, v6, v7] (.ref l1 :: st) (im) (rm) := ev_aload_n pm_m61 d61_91 rfl rfl
theorem d61_92 : decode prog_1_method_22_code 92 = .ok (.getfield 11, 3) := by decide +kernel
theorem s61_92 {v0 v1 v2 v3 v4 v5 v6 v7 : Value} {a : Nat} {st : List Value} {im : IM} {rm : RM} (hk : kd a = 17) : ev 61 92 [v0, v1, v2, v3, v4, v5, v6, v7] (.ref a :: st) im rm = ev 61 95 [v0, v1, v2, v3, v4, v5, v6, v7] (pm_ro (rm a 0) :: st) (im) (rm) := ev_getR pm_m61 d61_92 f7_11 rfl hk rfl
theorem d61_95 : decode prog_1_method_22_code 95 = .ok (.iload 7, 2) := by decide +kernel
theorem s61_95 {v0 v1 v2 v3 v4 v5 v6 : Value} {l1 : Int32} {st : List Value} {im : IM} {rm : RM}  : ev 61 95 [v0, v1, v2, v3, v4, v5, v6, .int l1] st im rm = ev 61 97 [v0, v1, v2, v3, v4, v5, v6, .int l1] (.int l1 :: st) (im) (rm) := ev_iload pm_m61 d61_95 rfl rfl
theorem d61_97 : decode prog_1_method_22_code 97 = .ok (.aaload, 1) := by decide +kernel
theorem s61_97 {v0 v1 v2 v3 v4 v5 v6 v7 : Value} {a : Nat} {i : Int32} {st : List Value} {im : IM} {rm : RM} (hk : 2 ≤ kd a ∧ kd a ≤ 5) (hi : pm_in i (ln a) = true) : ev 61 97 [v0, v1, v2, v3, v4, v5, v6, v7] (.int i :: .ref a :: st) im rm = ev 61 98 [v0, v1, v2, v3, v4, v5, v6, v7] (pm_ro (rm a i.toNatClampNeg) :: st) (im) (rm) := ev_aald pm_m61 d61_97 hk hi rfl
theorem d61_98 : decode prog_1_method_22_code 98 = .ok (.iload 5, 2) := by decide +kernel
theorem s61_98 {v0 v1 v2 v3 v4 v6 v7 : Value} {l1 : Int32} {st : List Value} {im : IM} {rm : RM}  : ev 61 98 [v0, v1, v2, v3, v4, .int l1, v6, v7] st im rm = ev 61 100 [v0, v1, v2, v3, v4, .int l1, v6, v7] (.int l1 :: st) (im) (rm) := ev_iload pm_m61 d61_98 rfl rfl
theorem d61_100 : decode prog_1_method_22_code 100 = .ok (.invokevirtual 249, 3) := by decide +kernel
theorem s61_100 {v0 v1 v2 v3 v4 v5 v6 v7 : Value} {a : Nat} {p1 : Int32} {p2 : Nat} {p3 : Int32} {r4 : Int32} {im : IM} {rm : RM} (hk : kd a = 17) : ev 61 100 [v0, v1, v2, v3, v4, v5, v6, v7] [.int p3, .ref p2, .int p1, .ref a, .int r4] im rm = (ev 84 0 [.ref a, .int p1, .ref p2, .int p3, pm_u, pm_u] [] im rm).bind (fun r => ev 61 103 [v0, v1, v2, v3, v4, v5, v6, v7] (r.1.toList ++ [.int r4]) r.2.1 r.2.2) := ev_callV pm_m61 d61_100 l7_249 rfl pm_m84 (by decide) hk rfl ⟨rfl, rfl⟩ rfl rfl
theorem d61_103 : decode prog_1_method_22_code 103 = .ok (.iadd, 1) := by decide +kernel
theorem s61_103 {v0 v1 v2 v3 v4 v5 v6 v7 : Value} {x : Int32} {y : Int32} {st : List Value} {im : IM} {rm : RM}  : ev 61 103 [v0, v1, v2, v3, v4, v5, v6, v7] (.int y :: .int x :: st) im rm = ev 61 104 [v0, v1, v2, v3, v4, v5, v6, v7] (.int (x + y) :: st) (im) (rm) := ev_iadd pm_m61 d61_103 rfl
theorem d61_104 : decode prog_1_method_22_code 104 = .ok (.istore 6, 2) := by decide +kernel
theorem s61_104 {v0 v1 v2 v3 v4 v6 v7 : Value} {l1 : Int32} {x2 : Int32} {st : List Value} {im : IM} {rm : RM}  : ev 61 104 [v0, v1, v2, v3, v4, .int l1, v6, v7] (.int x2 :: st) im rm = ev 61 106 [v0, v1, v2, pm_u, pm_u, .int l1, .int x2, v7] st (im) (rm) := ev_istore pm_m61 d61_104 (Nat.le_of_ble_eq_true rfl) rfl rfl
theorem d61_106 : decode prog_1_method_22_code 106 = .ok (.iinc 7 1, 3) := by decide +kernel
theorem s61_106 {v0 v1 v2 v3 v4 v5 : Value} {l1 : Int32} {l2 : Int32} {st : List Value} {im : IM} {rm : RM}  : ev 61 106 [v0, v1, v2, v3, v4, v5, .int l1, .int l2] st im rm = ev 61 109 [v0, v1, v2, v3, v4, v5, .int l1, .int (l2 + nI 1)] st (im) (rm) := ev_iinc pm_m61 d61_106 rfl rfl rfl rfl
theorem d61_109 : decode prog_1_method_22_code 109 = .ok (.goto (-50), 3) := by decide +kernel
theorem s61_109 {v0 v1 v2 v3 v4 v5 v6 v7 : Value}  {st : List Value} {im : IM} {rm : RM}  : ev 61 109 [v0, v1, v2, v3, v4, v5, v6, v7] st im rm = ev 61 59 [v0, v1, v2, pm_u, pm_u, v5, v6, v7] st (im) (rm) := ev_goto pm_m61 d61_109 rfl rfl
theorem d61_112 : decode prog_1_method_22_code 112 = .ok (.iload 6, 2) := by decide +kernel
theorem s61_112 {v0 v1 v2 v3 v4 v5 v7 : Value} {l1 : Int32} {st : List Value} {im : IM} {rm : RM}  : ev 61 112 [v0, v1, v2, v3, v4, v5, .int l1, v7] st im rm = ev 61 114 [v0, v1, v2, v3, v4, v5, .int l1, v7] (.int l1 :: st) (im) (rm) := ev_iload pm_m61 d61_112 rfl rfl
theorem d61_114 : decode prog_1_method_22_code 114 = .ok (.ireturn, 1) := by decide +kernel
theorem s61_114 {v0 v1 v2 v3 v4 v5 v6 v7 : Value} {x : Int32} {im : IM} {rm : RM} : ev 61 114 [v0, v1, v2, v3, v4, v5, v6, v7] [.int x] im rm = some (some (.int x), im, rm) := ev_ireturn pm_m61 d61_114 rfl
theorem d62_0 : decode prog_1_method_23_code 0 = .ok (.iload_n 1, 1) := by decide +kernel
theorem s62_0 {v0 v2 : Value} {l1 : Int32} {st : List Value} {im : IM} {rm : RM}  : ev 62 0 [v0, .int l1, v2] st im rm = ev 62 1 [v0, .int l1, v2] (.int l1 :: st) (im) (rm) := ev_iload_n pm_m62 d62_0 rfl rfl
theorem d62_1 : decode prog_1_method_23_code 1 = .ok (.iconst 4, 1) := by decide +kernel
theorem s62_1 {v0 v1 v2 : Value}  {st : List Value} {im : IM} {rm : RM}  : ev 62 1 [v0, v1, v2] st im rm = ev 62 2 [v0, v1, v2] (.int (nI 4) :: st) (im) (rm) := ev_iconst pm_m62 d62_1 rfl rfl
theorem d62_2 : decode prog_1_method_23_code 2 = .ok (.invokestatic 109, 3) := by decide +kernel
theorem s62_2 {v0 v1 v2 : Value} {p1 : Int32} {p2 : Int32} {im : IM} {rm : RM}  : ev 62 2 [v0, v1, v2] [.int p2, .int p1] im rm = (ev 75 0 [.int p1, .int p2] [] im rm).bind (fun r => ev 62 5 [v0, v1, v2] (r.1.toList ++ []) r.2.1 r.2.2) := ev_callS pm_m62 d62_2 (by decide) l7_109 rfl pm_m75 rfl ⟨rfl, rfl⟩ rfl rfl
theorem d62_5 : decode prog_1_method_23_code 5 = .ok (.ifCond .eq 12, 3) := by decide +kernel
theorem s62_5 {v0 v1 v2 : Value} {x : Int32} {st : List Value} {im : IM} {rm : RM} : ev 62 5 [v0, v1, v2] (.int x :: st) im rm = if x = nI 0 then ev 62 17 [pm_u, pm_u, pm_u] st im rm else ev 62 8 [v0, v1, v2] st im rm := ev_if_eq (y := 0) pm_m62 d62_5 rfl rfl rfl
theorem d62_8 : decode prog_1_method_23_code 8 = .ok (.iload_n 2, 1) := by decide +kernel
theorem s62_8 {v0 v1 : Value} {l1 : Int32} {st : List Value} {im : IM} {rm : RM}  : ev 62 8 [v0, v1, .int l1] st im rm = ev 62 9 [v0, v1, .int l1] (.int l1 :: st) (im) (rm) := ev_iload_n pm_m62 d62_8 rfl rfl
theorem d62_9 : decode prog_1_method_23_code 9 = .ok (.bipush 6, 2) := by decide +kernel
theorem s62_9 {v0 v1 v2 : Value}  {st : List Value} {im : IM} {rm : RM}  : ev 62 9 [v0, v1, v2] st im rm = ev 62 11 [v0, v1, v2] (.int (nI 6) :: st) (im) (rm) := ev_bipush pm_m62 d62_9 rfl rfl
theorem d62_11 : decode prog_1_method_23_code 11 = .ok (.invokestatic 109, 3) := by decide +kernel
theorem s62_11 {v0 v1 v2 : Value} {p1 : Int32} {p2 : Int32} {im : IM} {rm : RM}  : ev 62 11 [v0, v1, v2] [.int p2, .int p1] im rm = (ev 75 0 [.int p1, .int p2] [] im rm).bind (fun r => ev 62 14 [v0, v1, v2] (r.1.toList ++ []) r.2.1 r.2.2) := ev_callS pm_m62 d62_11 (by decide) l7_109 rfl pm_m75 rfl ⟨rfl, rfl⟩ rfl rfl
theorem d62_14 : decode prog_1_method_23_code 14 = .ok (.ifCond .ne 6, 3) := by decide +kernel
theorem s62_14 {v0 v1 v2 : Value} {x : Int32} {st : List Value} {im : IM} {rm : RM} : ev 62 14 [v0, v1, v2] (.int x :: st) im rm = if x = nI 0 then ev 62 17 [pm_u, pm_u, pm_u] st im rm else ev 62 20 [v0, v1, v2] st im rm := ev_if_ne (y := 0) pm_m62 d62_14 rfl rfl rfl
theorem d62_17 : decode prog_1_method_23_code 17 = .ok (.bipush (-2), 2) := by decide +kernel
theorem s62_17 {v0 v1 v2 : Value}  {st : List Value} {im : IM} {rm : RM}  : ev 62 17 [v0, v1, v2] st im rm = ev 62 19 [v0, v1, v2] (.int ((-2 : Int32)) :: st) (im) (rm) := ev_bipush pm_m62 d62_17 rfl rfl
theorem d62_19 : decode prog_1_method_23_code 19 = .ok (.ireturn, 1) := by decide +kernel
theorem s62_19 {v0 v1 v2 : Value} {x : Int32} {im : IM} {rm : RM} : ev 62 19 [v0, v1, v2] [.int x] im rm = some (some (.int x), im, rm) := ev_ireturn pm_m62 d62_19 rfl
theorem d62_20 : decode prog_1_method_23_code 20 = .ok (.aload_n 0, 1) := by decide +kernel
theorem s62_20 {v1 v2 : Value} {l1 : Nat} {st : List Value} {im : IM} {rm : RM}  : ev 62 20 [.ref l1, v1, v2] st im rm = ev 62 21 [.ref l1, v1, v2] (.ref l1 :: st) (im) (rm) := ev_aload_n pm_m62 d62_20 rfl rfl
theorem d62_21 : decode prog_1_method_23_code 21 = .ok (.getfield 11, 3) := by decide +kernel
theorem s62_21 {v0 v1 v2 : Value} {a : Nat} {st : List Value} {im : IM} {rm : RM} (hk : kd a = 17) : ev 62 21 [v0, v1, v2] (.ref a :: st) im rm = ev 62 24 [v0, v1, v2] (pm_ro (rm a 0) :: st) (im) (rm) := ev_getR pm_m62 d62_21 f7_11 rfl hk rfl
theorem d62_24 : decode prog_1_method_23_code 24 = .ok (.iload_n 2, 1) := by decide +kernel
theorem s62_24 {v0 v1 : Value} {l1 : Int32} {st : List Value} {im : IM} {rm : RM}  : ev 62 24 [v0, v1, .int l1] st im rm = ev 62 25 [v0, v1, .int l1] (.int l1 :: st) (im) (rm) := ev_iload_n pm_m62 d62_24 rfl rfl
theorem d62_25 : decode prog_1_method_23_code 25 = .ok (.aaload, 1) := by decide +kernel
theorem s62_25 {v0 v1 v2 : Value} {a : Nat} {i : Int32} {st : List Value} {im : IM} {rm : RM} (hk : 2 ≤ kd a ∧ kd a ≤ 5) (hi : pm_in i (ln a) = true) : ev 62 25 [v0, v1, v2] (.int i :: .ref a :: st) im rm = ev 62 26 [v0, v1, v2] (pm_ro (rm a i.toNatClampNeg) :: st) (im) (rm) := ev_aald pm_m62 d62_25 hk hi rfl
theorem d62_26 : decode prog_1_method_23_code 26 = .ok (.getfield 120, 3) := by decide +kernel
theorem s62_26 {v0 v1 v2 : Value} {a : Nat} {st : List Value} {im : IM} {rm : RM} (hk : kd a = 10) : ev 62 26 [v0, v1, v2] (.ref a :: st) im rm = ev 62 29 [v0, v1, v2] (.int (im a 2) :: st) (im) (rm) := ev_getI pm_m62 d62_26 f7_120 rfl hk rfl
theorem d62_29 : decode prog_1_method_23_code 29 = .ok (.ifCond .ne 6, 3) := by decide +kernel
theorem s62_29 {v0 v1 v2 : Value} {x : Int32} {st : List Value} {im : IM} {rm : RM} : ev 62 29 [v0, v1, v2] (.int x :: st) im rm = if x = nI 0 then ev 62 32 [v0, v1, v2] st im rm else ev 62 35 [v0, v1, v2] st im rm := ev_if_ne (y := 0) pm_m62 d62_29 rfl rfl rfl
theorem d62_32 : decode prog_1_method_23_code 32 = .ok (.bipush (-4), 2) := by decide +kernel
theorem s62_32 {v0 v1 v2 : Value}  {st : List Value} {im : IM} {rm : RM}  : ev 62 32 [v0, v1, v2] st im rm = ev 62 34 [v0, v1, v2] (.int ((-4 : Int32)) :: st) (im) (rm) := ev_bipush pm_m62 d62_32 rfl rfl
theorem d62_34 : decode prog_1_method_23_code 34 = .ok (.ireturn, 1) := by decide +kernel
theorem s62_34 {v0 v1 v2 : Value} {x : Int32} {im : IM} {rm : RM} : ev 62 34 [v0, v1, v2] [.int x] im rm = some (some (.int x), im, rm) := ev_ireturn pm_m62 d62_34 rfl
theorem d62_35 : decode prog_1_method_23_code 35 = .ok (.aload_n 0, 1) := by decide +kernel
theorem s62_35 {v1 v2 : Value} {l1 : Nat} {st : List Value} {im : IM} {rm : RM}  : ev 62 35 [.ref l1, v1, v2] st im rm = ev 62 36 [.ref l1, v1, v2] (.ref l1 :: st) (im) (rm) := ev_aload_n pm_m62 d62_35 rfl rfl
theorem d62_36 : decode prog_1_method_23_code 36 = .ok (.iload_n 1, 1) := by decide +kernel
theorem s62_36 {v0 v2 : Value} {l1 : Int32} {st : List Value} {im : IM} {rm : RM}  : ev 62 36 [v0, .int l1, v2] st im rm = ev 62 37 [v0, .int l1, v2] (.int l1 :: st) (im) (rm) := ev_iload_n pm_m62 d62_36 rfl rfl
theorem d62_37 : decode prog_1_method_23_code 37 = .ok (.iload_n 2, 1) := by decide +kernel
theorem s62_37 {v0 v1 : Value} {l1 : Int32} {st : List Value} {im : IM} {rm : RM}  : ev 62 37 [v0, v1, .int l1] st im rm = ev 62 38 [v0, v1, .int l1] (.int l1 :: st) (im) (rm) := ev_iload_n pm_m62 d62_37 rfl rfl
theorem d62_38 : decode prog_1_method_23_code 38 = .ok (.invokevirtual 164, 3) := by decide +kernel
theorem s62_38 {v0 v1 v2 : Value} {a : Nat} {p1 : Int32} {p2 : Int32} {im : IM} {rm : RM} (hk : kd a = 17) : ev 62 38 [v0, v1, v2] [.int p2, .int p1, .ref a] im rm = (ev 80 0 [.ref a, .int p1, .int p2, pm_u, pm_u, pm_u, pm_u, pm_u, pm_u, pm_u, pm_u] [] im rm).bind (fun r => ev 62 41 [v0, v1, v2] (r.1.toList ++ []) r.2.1 r.2.2) := ev_callV pm_m62 d62_38 l7_164 rfl pm_m80 (by decide) hk rfl ⟨rfl, rfl⟩ rfl rfl
theorem d62_41 : decode prog_1_method_23_code 41 = .ok (.aload_n 0, 1) := by decide +kernel
theorem s62_41 {v1 v2 : Value} {l1 : Nat} {st : List Value} {im : IM} {rm : RM}  : ev 62 41 [.ref l1, v1, v2] st im rm = ev 62 42 [.ref l1, v1, v2] (.ref l1 :: st) (im) (rm) := ev_aload_n pm_m62 d62_41 rfl rfl
theorem d62_42 : decode prog_1_method_23_code 42 = .ok (.getfield 83, 3) := by decide +kernel
theorem s62_42 {v0 v1 v2 : Value} {a : Nat} {st : List Value} {im : IM} {rm : RM} (hk : kd a = 17) : ev 62 42 [v0, v1, v2] (.ref a :: st) im rm = ev 62 45 [v0, v1, v2] (pm_ro (rm a 13) :: st) (im) (rm) := ev_getR pm_m62 d62_42 f7_83 rfl hk rfl
theorem d62_45 : decode prog_1_method_23_code 45 = .ok (.getfield 182, 3) := by decide +kernel
theorem s62_45 {v0 v1 v2 : Value} {a : Nat} {st : List Value} {im : IM} {rm : RM} (hk : kd a = 13) : ev 62 45 [v0, v1, v2] (.ref a :: st) im rm = ev 62 48 [v0, v1, v2] (.int (im a 5) :: st) (im) (rm) := ev_getI pm_m62 d62_45 f7_182 rfl hk rfl
theorem d62_48 : decode prog_1_method_23_code 48 = .ok (.ifCond .ne 7, 3) := by decide +kernel
theorem s62_48 {v0 v1 v2 : Value} {x : Int32} {st : List Value} {im : IM} {rm : RM} : ev 62 48 [v0, v1, v2] (.int x :: st) im rm = if x = nI 0 then ev 62 51 [v0, v1, v2] st im rm else ev 62 55 [v0, pm_u, pm_u] st im rm := ev_if_ne (y := 0) pm_m62 d62_48 rfl rfl rfl
theorem d62_51 : decode prog_1_method_23_code 51 = .ok (.sipush 9999, 3) := by decide +kernel
theorem s62_51 {v0 v1 v2 : Value}  {st : List Value} {im : IM} {rm : RM}  : ev 62 51 [v0, v1, v2] st im rm = ev 62 54 [v0, v1, v2] (.int (nI 9999) :: st) (im) (rm) := ev_sipush pm_m62 d62_51 rfl rfl
theorem d62_54 : decode prog_1_method_23_code 54 = .ok (.ireturn, 1) := by decide +kernel
theorem s62_54 {v0 v1 v2 : Value} {x : Int32} {im : IM} {rm : RM} : ev 62 54 [v0, v1, v2] [.int x] im rm = some (some (.int x), im, rm) := ev_ireturn pm_m62 d62_54 rfl
theorem d62_55 : decode prog_1_method_23_code 55 = .ok (.aload_n 0, 1) := by decide +kernel
theorem s62_55 {v1 v2 : Value} {l1 : Nat} {st : List Value} {im : IM} {rm : RM}  : ev 62 55 [.ref l1, v1, v2] st im rm = ev 62 56 [.ref l1, v1, v2] (.ref l1 :: st) (im) (rm) := ev_aload_n pm_m62 d62_55 rfl rfl
theorem d62_56 : decode prog_1_method_23_code 56 = .ok (.getfield 43, 3) := by decide +kernel
theorem s62_56 {v0 v1 v2 : Value} {a : Nat} {st : List Value} {im : IM} {rm : RM} (hk : kd a = 17) : ev 62 56 [v0, v1, v2] (.ref a :: st) im rm = ev 62 59 [v0, v1, v2] (pm_ro (rm a 5) :: st) (im) (rm) := ev_getR pm_m62 d62_56 f7_43 rfl hk rfl
theorem d62_59 : decode prog_1_method_23_code 59 = .ok (.iconst 0, 1) := by decide +kernel
theorem s62_59 {v0 v1 v2 : Value}  {st : List Value} {im : IM} {rm : RM}  : ev 62 59 [v0, v1, v2] st im rm = ev 62 60 [v0, v1, v2] (.int (nI 0) :: st) (im) (rm) := ev_iconst pm_m62 d62_59 rfl rfl
theorem d62_60 : decode prog_1_method_23_code 60 = .ok (.iaload, 1) := by decide +kernel
theorem s62_60 {v0 v1 v2 : Value} {a : Nat} {i : Int32} {st : List Value} {im : IM} {rm : RM} (hk : kd a = 0) (hi : pm_in i (ln a) = true) : ev 62 60 [v0, v1, v2] (.int i :: .ref a :: st) im rm = ev 62 61 [v0, v1, v2] (.int (im a i.toNatClampNeg) :: st) (im) (rm) := ev_iald pm_m62 d62_60 hk hi rfl
theorem d62_61 : decode prog_1_method_23_code 61 = .ok (.aload_n 0, 1) := by decide +kernel
theorem s62_61 {v1 v2 : Value} {l1 : Nat} {st : List Value} {im : IM} {rm : RM}  : ev 62 61 [.ref l1, v1, v2] st im rm = ev 62 62 [.ref l1, v1, v2] (.ref l1 :: st) (im) (rm) := ev_aload_n pm_m62 d62_61 rfl rfl
theorem d62_62 : decode prog_1_method_23_code 62 = .ok (.getfield 83, 3) := by decide +kernel
theorem s62_62 {v0 v1 v2 : Value} {a : Nat} {st : List Value} {im : IM} {rm : RM} (hk : kd a = 17) : ev 62 62 [v0, v1, v2] (.ref a :: st) im rm = ev 62 65 [v0, v1, v2] (pm_ro (rm a 13) :: st) (im) (rm) := ev_getR pm_m62 d62_62 f7_83 rfl hk rfl
theorem d62_65 : decode prog_1_method_23_code 65 = .ok (.getfield 182, 3) := by decide +kernel
theorem s62_65 {v0 v1 v2 : Value} {a : Nat} {st : List Value} {im : IM} {rm : RM} (hk : kd a = 13) : ev 62 65 [v0, v1, v2] (.ref a :: st) im rm = ev 62 68 [v0, v1, v2] (.int (im a 5) :: st) (im) (rm) := ev_getI pm_m62 d62_65 f7_182 rfl hk rfl
theorem d62_68 : decode prog_1_method_23_code 68 = .ok (.idiv, 1) := by decide +kernel
theorem s62_68 {v0 v1 v2 : Value} {x : Int32} {y : Int32} {st : List Value} {im : IM} {rm : RM} (h0 : ¬ y = 0) : ev 62 68 [v0, v1, v2] (.int y :: .int x :: st) im rm = ev 62 69 [v0, v1, v2] (.int (x / y) :: st) (im) (rm) := ev_idiv pm_m62 d62_68 h0 rfl
theorem d62_69 : decode prog_1_method_23_code 69 = .ok (.sipush 9999, 3) := by decide +kernel
theorem s62_69 {v0 v1 v2 : Value}  {st : List Value} {im : IM} {rm : RM}  : ev 62 69 [v0, v1, v2] st im rm = ev 62 72 [v0, v1, v2] (.int (nI 9999) :: st) (im) (rm) := ev_sipush pm_m62 d62_69 rfl rfl
theorem d62_72 : decode prog_1_method_23_code 72 = .ok (.invokestatic 253, 3) := by decide +kernel
theorem s62_72 {v0 v1 v2 : Value} {p1 : Int32} {p2 : Int32} {im : IM} {rm : RM}  : ev 62 72 [v0, v1, v2] [.int p2, .int p1] im rm = (ev 176 0 [.int p1, .int p2] [] im rm).bind (fun r => ev 62 75 [v0, v1, v2] (r.1.toList ++ []) r.2.1 r.2.2) := ev_callS pm_m62 d62_72 (by decide) l7_253 rfl pm_m176 rfl ⟨rfl, rfl⟩ rfl rfl
theorem d62_75 : decode prog_1_method_23_code 75 = .ok (.ireturn, 1) := by decide +kernel
theorem s62_75 {v0 v1 v2 : Value} {x : Int32} {im : IM} {rm : RM} : ev 62 75 [v0, v1, v2] [.int x] im rm = some (some (.int x), im, rm) := ev_ireturn pm_m62 d62_75 rfl
theorem d63_0 : decode prog_1_method_24_code 0 = .ok (.iload_n 1, 1) := by decide +kernel
theorem s63_0 {v0 v2 : Value} {l1 : Int32} {st : List Value} {im : IM} {rm : RM}  : ev 63 0 [v0, .int l1, v2] st im rm = ev 63 1 [v0, .int l1, v2] (.int l1 :: st) (im) (rm) := ev_iload_n pm_m63 d63_0 rfl rfl
theorem d63_1 : decode prog_1_method_24_code 1 = .ok (.iconst 4, 1) := by decide +kernel
theorem s63_1 {v0 v1 v2 : Value}  {st : List Value} {im : IM} {rm : RM}  : ev 63 1 [v0, v1, v2] st im rm = ev 63 2 [v0, v1, v2] (.int (nI 4) :: st) (im) (rm) := ev_iconst pm_m63 d63_1 rfl rfl
theorem d63_2 : decode prog_1_method_24_code 2 = .ok (.invokestatic 109, 3) := by decide +kernel
theorem s63_2 {v0 v1 v2 : Value} {p1 : Int32} {p2 : Int32} {im : IM} {rm : RM}  : ev 63 2 [v0, v1, v2] [.int p2, .int p1] im rm = (ev 75 0 [.int p1, .int p2] [] im rm).bind (fun r => ev 63 5 [v0, v1, v2] (r.1.toList ++ []) r.2.1 r.2.2) := ev_callS pm_m63 d63_2 (by decide) l7_109 rfl pm_m75 rfl ⟨rfl, rfl⟩ rfl rfl
theorem d63_5 : decode prog_1_method_24_code 5 = .ok (.ifCond .eq 11, 3) := by decide +kernel
theorem s63_5 {v0 v1 v2 : Value} {x : Int32} {st : List Value} {im : IM} {rm : RM} : ev 63 5 [v0, v1, v2] (.int x :: st) im rm = if x = nI 0 then ev 63 16 [pm_u, pm_u, pm_u] st im rm else ev 63 8 [v0, v1, v2] st im rm := ev_if_eq (y := 0) pm_m63 d63_5 rfl rfl rfl
theorem d63_8 : decode prog_1_method_24_code 8 = .ok (.iload_n 2, 1) := by decide +kernel
theorem s63_8 {v0 v1 : Value} {l1 : Int32} {st : List Value} {im : IM} {rm : RM}  : ev 63 8 [v0, v1, .int l1] st im rm = ev 63 9 [v0, v1, .int l1] (.int l1 :: st) (im) (rm) := ev_iload_n pm_m63 d63_8 rfl rfl
theorem d63_9 : decode prog_1_method_24_code 9 = .ok (.iconst 4, 1) := by decide +kernel
theorem s63_9 {v0 v1 v2 : Value}  {st : List Value} {im : IM} {rm : RM}  : ev 63 9 [v0, v1, v2] st im rm = ev 63 10 [v0, v1, v2] (.int (nI 4) :: st) (im) (rm) := ev_iconst pm_m63 d63_9 rfl rfl
theorem d63_10 : decode prog_1_method_24_code 10 = .ok (.invokestatic 109, 3) := by decide +kernel
theorem s63_10 {v0 v1 v2 : Value} {p1 : Int32} {p2 : Int32} {im : IM} {rm : RM}  : ev 63 10 [v0, v1, v2] [.int p2, .int p1] im rm = (ev 75 0 [.int p1, .int p2] [] im rm).bind (fun r => ev 63 13 [v0, v1, v2] (r.1.toList ++ []) r.2.1 r.2.2) := ev_callS pm_m63 d63_10 (by decide) l7_109 rfl pm_m75 rfl ⟨rfl, rfl⟩ rfl rfl
theorem d63_13 : decode prog_1_method_24_code 13 = .ok (.ifCond .ne 7, 3) := by decide +kernel
theorem s63_13 {v0 v1 v2 : Value} {x : Int32} {st : List Value} {im : IM} {rm : RM} : ev 63 13 [v0, v1, v2] (.int x :: st) im rm = if x = nI 0 then ev 63 16 [pm_u, pm_u, pm_u] st im rm else ev 63 20 [v0, v1, v2] st im rm := ev_if_ne (y := 0) pm_m63 d63_13 rfl rfl rfl
theorem d63_16 : decode prog_1_method_24_code 16 = .ok (.ldc_w 260, 3) := by decide +kernel
theorem s63_16 {v0 v1 v2 : Value}  {st : List Value} {im : IM} {rm : RM}  : ev 63 16 [v0, v1, v2] st im rm = ev 63 19 [v0, v1, v2] (.int ((-2147483648 : Int32)) :: st) (im) (rm) := ev_ldcw pm_m63 d63_16 (by decide +kernel) rfl
theorem d63_19 : decode prog_1_method_24_code 19 = .ok (.ireturn, 1) := by decide +kernel
theorem s63_19 {v0 v1 v2 : Value} {x : Int32} {im : IM} {rm : RM} : ev 63 19 [v0, v1, v2] [.int x] im rm = some (some (.int x), im, rm) := ev_ireturn pm_m63 d63_19 rfl
theorem d63_20 : decode prog_1_method_24_code 20 = .ok (.aload_n 0, 1) := by decide +kernel
theorem s63_20 {v1 v2 : Value} {l1 : Nat} {st : List Value} {im : IM} {rm : RM}  : ev 63 20 [.ref l1, v1, v2] st im rm = ev 63 21 [.ref l1, v1, v2] (.ref l1 :: st) (im) (rm) := ev_aload_n pm_m63 d63_20 rfl rfl
theorem d63_21 : decode prog_1_method_24_code 21 = .ok (.iload_n 1, 1) := by decide +kernel
theorem s63_21 {v0 v2 : Value} {l1 : Int32} {st : List Value} {im : IM} {rm : RM}  : ev 63 21 [v0, .int l1, v2] st im rm = ev 63 22 [v0, .int l1, v2] (.int l1 :: st) (im) (rm) := ev_iload_n pm_m63 d63_21 rfl rfl
theorem d63_22 : decode prog_1_method_24_code 22 = .ok (.invokevirtual 240, 3) := by decide +kernel
theorem s63_22 {v0 v1 v2 : Value} {a : Nat} {p1 : Int32} {im : IM} {rm : RM} (hk : kd a = 17) : ev 63 22 [v0, v1, v2] [.int p1, .ref a] im rm = (ev 81 0 [.ref a, .int p1, pm_u] [] im rm).bind (fun r => ev 63 25 [v0, v1, v2] (r.1.toList ++ []) r.2.1 r.2.2) := ev_callV pm_m63 d63_22 l7_240 rfl pm_m81 (by decide) hk rfl ⟨rfl, rfl⟩ rfl rfl
theorem d63_25 : decode prog_1_method_24_code 25 = .ok (.aload_n 0, 1) := by decide +kernel
theorem s63_25 {v1 v2 : Value} {l1 : Nat} {st : List Value} {im : IM} {rm : RM}  : ev 63 25 [.ref l1, v1, v2] st im rm = ev 63 26 [.ref l1, v1, v2] (.ref l1 :: st) (im) (rm) := ev_aload_n pm_m63 d63_25 rfl rfl
theorem d63_26 : decode prog_1_method_24_code 26 = .ok (.iload_n 2, 1) := by decide +kernel
theorem s63_26 {v0 v1 : Value} {l1 : Int32} {st : List Value} {im : IM} {rm : RM}  : ev 63 26 [v0, v1, .int l1] st im rm = ev 63 27 [v0, v1, .int l1] (.int l1 :: st) (im) (rm) := ev_iload_n pm_m63 d63_26 rfl rfl
theorem d63_27 : decode prog_1_method_24_code 27 = .ok (.invokevirtual 240, 3) := by decide +kernel
theorem s63_27 {v0 v1 v2 : Value} {a : Nat} {p1 : Int32} {im : IM} {rm : RM} (hk : kd a = 17) : ev 63 27 [v0, v1, v2] [.int p1, .ref a] im rm = (ev 81 0 [.ref a, .int p1, pm_u] [] im rm).bind (fun r => ev 63 30 [v0, v1, v2] (r.1.toList ++ []) r.2.1 r.2.2) := ev_callV pm_m63 d63_27 l7_240 rfl pm_m81 (by decide) hk rfl ⟨rfl, rfl⟩ rfl rfl
theorem d63_30 : decode prog_1_method_24_code 30 = .ok (.aload_n 0, 1) := by decide +kernel
theorem s63_30 {v1 v2 : Value} {l1 : Nat} {st : List Value} {im : IM} {rm : RM}  : ev 63 30 [.ref l1, v1, v2] st im rm = ev 63 31 [.ref l1, v1, v2] (.ref l1 :: st) (im) (rm) := ev_aload_n pm_m63 d63_30 rfl rfl
theorem d63_31 : decode prog_1_method_24_code 31 = .ok (.iload_n 2, 1) := by decide +kernel
theorem s63_31 {v0 v1 : Value} {l1 : Int32} {st : List Value} {im : IM} {rm : RM}  : ev 63 31 [v0, v1, .int l1] st im rm = ev 63 32 [v0, v1, .int l1] (.int l1 :: st) (im) (rm) := ev_iload_n pm_m63 d63_31 rfl rfl
theorem d63_32 : decode prog_1_method_24_code 32 = .ok (.invokevirtual 261, 3) := by decide +kernel
theorem s63_32 {v0 v1 v2 : Value} {a : Nat} {p1 : Int32} {im : IM} {rm : RM} (hk : kd a = 17) : ev 63 32 [v0, v1, v2] [.int p1, .ref a] im rm = (ev 83 0 [.ref a, .int p1, pm_u, pm_u] [] im rm).bind (fun r => ev 63 35 [v0, v1, v2] (r.1.toList ++ []) r.2.1 r.2.2) := ev_callV pm_m63 d63_32 l7_261 rfl pm_m83 (by decide) hk rfl ⟨rfl, rfl⟩ rfl rfl
theorem d63_35 : decode prog_1_method_24_code 35 = .ok (.aload_n 0, 1) := by decide +kernel
theorem s63_35 {v1 v2 : Value} {l1 : Nat} {st : List Value} {im : IM} {rm : RM}  : ev 63 35 [.ref l1, v1, v2] st im rm = ev 63 36 [.ref l1, v1, v2] (.ref l1 :: st) (im) (rm) := ev_aload_n pm_m63 d63_35 rfl rfl
theorem d63_36 : decode prog_1_method_24_code 36 = .ok (.iload_n 1, 1) := by decide +kernel
theorem s63_36 {v0 v2 : Value} {l1 : Int32} {st : List Value} {im : IM} {rm : RM}  : ev 63 36 [v0, .int l1, v2] st im rm = ev 63 37 [v0, .int l1, v2] (.int l1 :: st) (im) (rm) := ev_iload_n pm_m63 d63_36 rfl rfl
theorem d63_37 : decode prog_1_method_24_code 37 = .ok (.invokevirtual 261, 3) := by decide +kernel
theorem s63_37 {v0 v1 v2 : Value} {a : Nat} {p1 : Int32} {r2 : Int32} {im : IM} {rm : RM} (hk : kd a = 17) : ev 63 37 [v0, v1, v2] [.int p1, .ref a, .int r2] im rm = (ev 83 0 [.ref a, .int p1, pm_u, pm_u] [] im rm).bind (fun r => ev 63 40 [v0, v1, v2] (r.1.toList ++ [.int r2]) r.2.1 r.2.2) := ev_callV pm_m63 d63_37 l7_261 rfl pm_m83 (by decide) hk rfl ⟨rfl, rfl⟩ rfl rfl
theorem d63_40 : decode prog_1_method_24_code 40 = .ok (.isub, 1) := by decide +kernel
theorem s63_40 {v0 v1 v2 : Value} {x : Int32} {y : Int32} {st : List Value} {im : IM} {rm : RM}  : ev 63 40 [v0, v1, v2] (.int y :: .int x :: st) im rm = ev 63 41 [v0, v1, v2] (.int (x - y) :: st) (im) (rm) := ev_isub pm_m63 d63_40 rfl
theorem d63_41 : decode prog_1_method_24_code 41 = .ok (.ireturn, 1) := by decide +kernel
theorem s63_41 {v0 v1 v2 : Value} {x : Int32} {im : IM} {rm : RM} : ev 63 41 [v0, v1, v2] [.int x] im rm = some (some (.int x), im, rm) := ev_ireturn pm_m63 d63_41 rfl
theorem d64_0 : decode prog_1_method_25_code 0 = .ok (.iload_n 1, 1) := by decide +kernel
theorem s64_0 {v0 v2 v3 : Value} {l1 : Int32} {st : List Value} {im : IM} {rm : RM}  : ev 64 0 [v0, .int l1, v2, v3] st im rm = ev 64 1 [v0, .int l1, v2, v3] (.int l1 :: st) (im) (rm) := ev_iload_n pm_m64 d64_0 rfl rfl
theorem d64_1 : decode prog_1_method_25_code 1 = .ok (.iconst 4, 1) := by decide +kernel
theorem s64_1 {v0 v1 v2 v3 : Value}  {st : List Value} {im : IM} {rm : RM}  : ev 64 1 [v0, v1, v2, v3] st im rm = ev 64 2 [v0, v1, v2, v3] (.int (nI 4) :: st) (im) (rm) := ev_iconst pm_m64 d64_1 rfl rfl
theorem d64_2 : decode prog_1_method_25_code 2 = .ok (.invokestatic 109, 3) := by decide +kernel
theorem s64_2 {v0 v1 v2 v3 : Value} {p1 : Int32} {p2 : Int32} {im : IM} {rm : RM}  : ev 64 2 [v0, v1, v2, v3] [.int p2, .int p1] im rm = (ev 75 0 [.int p1, .int p2] [] im rm).bind (fun r => ev 64 5 [v0, v1, v2, v3] (r.1.toList ++ []) r.2.1 r.2.2) := ev_callS pm_m64 d64_2 (by decide) l7_109 rfl pm_m75 rfl ⟨rfl, rfl⟩ rfl rfl
theorem d64_5 : decode prog_1_method_25_code 5 = .ok (.ifCond .ne 6, 3) := by decide +kernel
theorem s64_5 {v0 v1 v2 v3 : Value} {x : Int32} {st : List Value} {im : IM} {rm : RM} : ev 64 5 [v0, v1, v2, v3] (.int x :: st) im rm = if x = nI 0 then ev 64 8 [v0, v1, v2, v3] st im rm else ev 64 11 [v0, v1, v2, v3] st im rm := ev_if_ne (y := 0) pm_m64 d64_5 rfl rfl rfl
theorem d64_8 : decode prog_1_method_25_code 8 = .ok (.bipush (-2), 2) := by decide +kernel
theorem s64_8 {v0 v1 v2 v3 : Value}  {st : List Value} {im : IM} {rm : RM}  : ev 64 8 [v0, v1, v2, v3] st im rm = ev 64 10 [v0, v1, v2, v3] (.int ((-2 : Int32)) :: st) (im) (rm) := ev_bipush pm_m64 d64_8 rfl rfl
theorem d64_10 : decode prog_1_method_25_code 10 = .ok (.ireturn, 1) := by decide +kernel
theorem s64_10 {v0 v1 v2 v3 : Value} {x : Int32} {im : IM} {rm : RM} : ev 64 10 [v0, v1, v2, v3] [.int x] im rm = some (some (.int x), im, rm) := ev_ireturn pm_m64 d64_10 rfl
theorem d64_11 : decode prog_1_method_25_code 11 = .ok (.iload_n 2, 1) := by decide +kernel
theorem s64_11 {v0 v1 v3 : Value} {l1 : Int32} {st : List Value} {im : IM} {rm : RM}  : ev 64 11 [v0, v1, .int l1, v3] st im rm = ev 64 12 [v0, v1, .int l1, v3] (.int l1 :: st) (im) (rm) := ev_iload_n pm_m64 d64_11 rfl rfl
theorem d64_12 : decode prog_1_method_25_code 12 = .ok (.iconst 2, 1) := by decide +kernel
theorem s64_12 {v0 v1 v2 v3 : Value}  {st : List Value} {im : IM} {rm : RM}  : ev 64 12 [v0, v1, v2, v3] st im rm = ev 64 13 [v0, v1, v2, v3] (.int (nI 2) :: st) (im) (rm) := ev_iconst pm_m64 d64_12 rfl rfl
theorem d64_13 : decode prog_1_method_25_code 13 = .ok (.invokestatic 109, 3) := by decide +kernel
theorem s64_13 {v0 v1 v2 v3 : Value} {p1 : Int32} {p2 : Int32} {im : IM} {rm : RM}  : ev 64 13 [v0, v1, v2, v3] [.int p2, .int p1] im rm = (ev 75 0 [.int p1, .int p2] [] im rm).bind (fun r => ev 64 16 [v0, v1, v2, v3] (r.1.toList ++ []) r.2.1 r.2.2) := ev_callS pm_m64 d64_13 (by decide) l7_109 rfl pm_m75 rfl ⟨rfl, rfl⟩ rfl rfl
theorem d64_16 : decode prog_1_method_25_code 16 = .ok (.ifCond .eq 23, 3) := by decide +kernel
theorem s64_16 {v0 v1 v2 v3 : Value} {x : Int32} {st : List Value} {im : IM} {rm : RM} : ev 64 16 [v0, v1, v2, v3] (.int x :: st) im rm = if x = nI 0 then ev 64 39 [pm_u, pm_u, pm_u, pm_u] st im rm else ev 64 19 [v0, v1, v2, v3] st im rm := ev_if_eq (y := 0) pm_m64 d64_16 rfl rfl rfl
theorem d64_19 : decode prog_1_method_25_code 19 = .ok (.iload_n 3, 1) := by decide +kernel
theorem s64_19 {v0 v1 v2 : Value} {l1 : Int32} {st : List Value} {im : IM} {rm : RM}  : ev 64 19 [v0, v1, v2, .int l1] st im rm = ev 64 20 [v0, v1, v2, .int l1] (.int l1 :: st) (im) (rm) := ev_iload_n pm_m64 d64_19 rfl rfl
theorem d64_20 : decode prog_1_method_25_code 20 = .ok (.iload_n 2, 1) := by decide +kernel
theorem s64_20 {v0 v1 v3 : Value} {l1 : Int32} {st : List Value} {im : IM} {rm : RM}  : ev 64 20 [v0, v1, .int l1, v3] st im rm = ev 64 21 [v0, v1, .int l1, v3] (.int l1 :: st) (im) (rm) := ev_iload_n pm_m64 d64_20 rfl rfl
theorem d64_21 : decode prog_1_method_25_code 21 = .ok (.ifCond .ne 9, 3) := by decide +kernel
theorem s64_21 {v0 v1 v2 v3 : Value} {x : Int32} {st : List Value} {im : IM} {rm : RM} : ev 64 21 [v0, v1, v2, v3] (.int x :: st) im rm = if x = nI 0 then ev 64 24 [v0, v1, v2, v3] st im rm else ev 64 30 [v0, v1, v2, v3] st im rm := ev_if_ne (y := 0) pm_m64 d64_21 rfl rfl rfl
theorem d64_24 : decode prog_1_method_25_code 24 = .ok (.sipush 9999, 3) := by decide +kernel
theorem s64_24 {v0 v1 v2 v3 : Value}  {st : List Value} {im : IM} {rm : RM}  : ev 64 24 [v0, v1, v2, v3] st im rm = ev 64 27 [v0, v1, v2, v3] (.int (nI 9999) :: st) (im) (rm) := ev_sipush pm_m64 d64_24 rfl rfl
theorem d64_27 : decode prog_1_method_25_code 27 = .ok (.goto 6, 3) := by decide +kernel
theorem s64_27 {v0 v1 v2 v3 : Value}  {st : List Value} {im : IM} {rm : RM}  : ev 64 27 [v0, v1, v2, v3] st im rm = ev 64 33 [v0, v1, v2, v3] st (im) (rm) := ev_goto pm_m64 d64_27 rfl rfl
theorem d64_30 : decode prog_1_method_25_code 30 = .ok (.sipush 999, 3) := by decide +kernel
theorem s64_30 {v0 v1 v2 v3 : Value}  {st : List Value} {im : IM} {rm : RM}  : ev 64 30 [v0, v1, v2, v3] st im rm = ev 64 33 [v0, v1, v2, v3] (.int (nI 999) :: st) (im) (rm) := ev_sipush pm_m64 d64_30 rfl rfl
theorem d64_33 : decode prog_1_method_25_code 33 = .ok (.invokestatic 117, 3) := by decide +kernel
theorem s64_33 {v0 v1 v2 v3 : Value} {p1 : Int32} {p2 : Int32} {im : IM} {rm : RM}  : ev 64 33 [v0, v1, v2, v3] [.int p2, .int p1] im rm = (ev 76 0 [.int p1, .int p2] [] im rm).bind (fun r => ev 64 36 [v0, v1, v2, v3] (r.1.toList ++ []) r.2.1 r.2.2) := ev_callS pm_m64 d64_33 (by decide) l7_117 rfl pm_m76 rfl ⟨rfl, rfl⟩ rfl rfl
theorem d64_36 : decode prog_1_method_25_code 36 = .ok (.ifCond .ne 6, 3) := by decide +kernel
theorem s64_36 {v0 v1 v2 v3 : Value} {x : Int32} {st : List Value} {im : IM} {rm : RM} : ev 64 36 [v0, v1, v2, v3] (.int x :: st) im rm = if x = nI 0 then ev 64 39 [pm_u, pm_u, pm_u, pm_u] st im rm else ev 64 42 [v0, v1, v2, v3] st im rm := ev_if_ne (y := 0) pm_m64 d64_36 rfl rfl rfl
theorem d64_39 : decode prog_1_method_25_code 39 = .ok (.bipush (-3), 2) := by decide +kernel
theorem s64_39 {v0 v1 v2 v3 : Value}  {st : List Value} {im : IM} {rm : RM}  : ev 64 39 [v0, v1, v2, v3] st im rm = ev 64 41 [v0, v1, v2, v3] (.int ((-3 : Int32)) :: st) (im) (rm) := ev_bipush pm_m64 d64_39 rfl rfl
theorem d64_41 : decode prog_1_method_25_code 41 = .ok (.ireturn, 1) := by decide +kernel
theorem s64_41 {v0 v1 v2 v3 : Value} {x : Int32} {im : IM} {rm : RM} : ev 64 41 [v0, v1, v2, v3] [.int x] im rm = some (some (.int x), im, rm) := ev_ireturn pm_m64 d64_41 rfl
theorem d64_42 : decode prog_1_method_25_code 42 = .ok (.iload_n 2, 1) := by decide +kernel
theorem s64_42 {v0 v1 v3 : Value} {l1 : Int32} {st : List Value} {im : IM} {rm : RM}  : ev 64 42 [v0, v1, .int l1, v3] st im rm = ev 64 43 [v0, v1, .int l1, v3] (.int l1 :: st) (im) (rm) := ev_iload_n pm_m64 d64_42 rfl rfl
theorem d64_43 : decode prog_1_method_25_code 43 = .ok (.ifCond .ne 10, 3) := by decide +kernel
theorem s64_43 {v0 v1 v2 v3 : Value} {x : Int32} {st : List Value} {im : IM} {rm : RM} : ev 64 43 [v0, v1, v2, v3] (.int x :: st) im rm = if x = nI 0 then ev 64 46 [v0, v1, v2, v3] st im rm else ev 64 53 [v0, v1, pm_u, v3] st im rm := ev_if_ne (y := 0) pm_m64 d64_43 rfl rfl rfl
theorem d64_46 : decode prog_1_method_25_code 46 = .ok (.aload_n 0, 1) := by decide +kernel
theorem s64_46 {v1 v2 v3 : Value} {l1 : Nat} {st : List Value} {im : IM} {rm : RM}  : ev 64 46 [.ref l1, v1, v2, v3] st im rm = ev 64 47 [.ref l1, v1, v2, v3] (.ref l1 :: st) (im) (rm) := ev_aload_n pm_m64 d64_46 rfl rfl
theorem d64_47 : decode prog_1_method_25_code 47 = .ok (.getfield 46, 3) := by decide +kernel
theorem s64_47 {v0 v1 v2 v3 : Value} {a : Nat} {st : List Value} {im : IM} {rm : RM} (hk : kd a = 17) : ev 64 47 [v0, v1, v2, v3] (.ref a :: st) im rm = ev 64 50 [v0, v1, v2, v3] (pm_ro (rm a 6) :: st) (im) (rm) := ev_getR pm_m64 d64_47 f7_46 rfl hk rfl
theorem d64_50 : decode prog_1_method_25_code 50 = .ok (.goto 7, 3) := by decide +kernel
theorem s64_50 {v0 v1 v2 v3 : Value}  {st : List Value} {im : IM} {rm : RM}  : ev 64 50 [v0, v1, v2, v3] st im rm = ev 64 57 [pm_u, v1, pm_u, v3] st (im) (rm) := ev_goto pm_m64 d64_50 rfl rfl
theorem d64_53 : decode prog_1_method_25_code 53 = .ok (.aload_n 0, 1) := by decide +kernel
theorem s64_53 {v1 v2 v3 : Value} {l1 : Nat} {st : List Value} {im : IM} {rm : RM}  : ev 64 53 [.ref l1, v1, v2, v3] st im rm = ev 64 54 [.ref l1, v1, v2, v3] (.ref l1 :: st) (im) (rm) := ev_aload_n pm_m64 d64_53 rfl rfl
theorem d64_54 : decode prog_1_method_25_code 54 = .ok (.getfield 49, 3) := by decide +kernel
theorem s64_54 {v0 v1 v2 v3 : Value} {a : Nat} {st : List Value} {im : IM} {rm : RM} (hk : kd a = 17) : ev 64 54 [v0, v1, v2, v3] (.ref a :: st) im rm = ev 64 57 [pm_u, v1, pm_u, v3] (pm_ro (rm a 7) :: st) (im) (rm) := ev_getR pm_m64 d64_54 f7_49 rfl hk rfl
theorem d64_57 : decode prog_1_method_25_code 57 = .ok (.iload_n 1, 1) := by decide +kernel
theorem s64_57 {v0 v2 v3 : Value} {l1 : Int32} {st : List Value} {im : IM} {rm : RM}  : ev 64 57 [v0, .int l1, v2, v3] st im rm = ev 64 58 [v0, .int l1, v2, v3] (.int l1 :: st) (im) (rm) := ev_iload_n pm_m64 d64_57 rfl rfl
theorem d64_58 : decode prog_1_method_25_code 58 = .ok (.iload_n 3, 1) := by decide +kernel
theorem s64_58 {v0 v1 v2 : Value} {l1 : Int32} {st : List Value} {im : IM} {rm : RM}  : ev 64 58 [v0, v1, v2, .int l1] st im rm = ev 64 59 [v0, v1, v2, .int l1] (.int l1 :: st) (im) (rm) := ev_iload_n pm_m64 d64_58 rfl rfl
theorem d64_59 : decode prog_1_method_25_code 59 = .ok (.invokestatic 131, 3) := by decide +kernel
theorem s64_59 {v0 v1 v2 v3 : Value} {p1 : Nat} {p2 : Int32} {p3 : Int32} {im : IM} {rm : RM}  : ev 64 59 [v0, v1, v2, v3] [.int p3, .int p2, .ref p1] im rm = (ev 78 0 [.ref p1, .int p2, .int p3, pm_u] [] im rm).bind (fun r => ev 64 62 [v0, v1, v2, v3] (r.1.toList ++ []) r.2.1 r.2.2) := ev_callS pm_m64 d64_59 (by decide) l7_131 rfl pm_m78 rfl ⟨rfl, rfl⟩ rfl rfl
theorem d64_62 : decode prog_1_method_25_code 62 = .ok (.ireturn, 1) := by decide +kernel
theorem s64_62 {v0 v1 v2 v3 : Value} {x : Int32} {im : IM} {rm : RM} : ev 64 62 [v0, v1, v2, v3] [.int x] im rm = some (some (.int x), im, rm) := ev_ireturn pm_m64 d64_62 rfl
theorem d65_0 : decode prog_1_method_26_code 0 = .ok (.iload_n 1, 1) := by decide +kernel
theorem s65_0 {v0 v2 v3 v4 : Value} {l1 : Int32} {st : List Value} {im : IM} {rm : RM}  : ev 65 0 [v0, .int l1, v2, v3, v4] st im rm = ev 65 1 [v0, .int l1, v2, v3, v4] (.int l1 :: st) (im) (rm) := ev_iload_n pm_m65 d65_0 rfl rfl
theorem d65_1 : decode prog_1_method_26_code 1 = .ok (.iconst 4, 1) := by decide +kernel
theorem s65_1 {v0 v1 v2 v3 v4 : Value}  {st : List Value} {im : IM} {rm : RM}  : ev 65 1 [v0, v1, v2, v3, v4] st im rm = ev 65 2 [v0, v1, v2, v3, v4] (.int (nI 4) :: st) (im) (rm) := ev_iconst pm_m65 d65_1 rfl rfl
theorem d65_2 : decode prog_1_method_26_code 2 = .ok (.invokestatic 109, 3) := by decide +kernel
theorem s65_2 {v0 v1 v2 v3 v4 : Value} {p1 : Int32} {p2 : Int32} {im : IM} {rm : RM}  : ev 65 2 [v0, v1, v2, v3, v4] [.int p2, .int p1] im rm = (ev 75 0 [.int p1, .int p2] [] im rm).bind (fun r => ev 65 5 [v0, v1, v2, v3, v4] (r.1.toList ++ []) r.2.1 r.2.2) := ev_callS pm_m65 d65_2 (by decide) l7_109 rfl pm_m75 rfl ⟨rfl, rfl⟩ rfl rfl
theorem d65_5 : decode prog_1_method_26_code 5 = .ok (.ifCond .eq 11, 3) := by decide +kernel
theorem s65_5 {v0 v1 v2 v3 v4 : Value} {x : Int32} {st : List Value} {im : IM} {rm : RM} : ev 65 5 [v0, v1, v2, v3, v4] (.int x :: st) im rm = if x = nI 0 then ev 65 16 [pm_u, pm_u, pm_u, pm_u, pm_u] st im rm else ev 65 8 [v0, v1, v2, v3, v4] st im rm := ev_if_eq (y := 0) pm_m65 d65_5 rfl rfl rfl
theorem d65_8 : decode prog_1_method_26_code 8 = .ok (.iload_n 2, 1) := by decide +kernel
theorem s65_8 {v0 v1 v3 v4 : Value} {l1 : Int32} {st : List Value} {im : IM} {rm : RM}  : ev 65 8 [v0, v1, .int l1, v3, v4] st im rm = ev 65 9 [v0, v1, .int l1, v3, v4] (.int l1 :: st) (im) (rm) := ev_iload_n pm_m65 d65_8 rfl rfl
theorem d65_9 : decode prog_1_method_26_code 9 = .ok (.iconst 2, 1) := by decide +kernel
theorem s65_9 {v0 v1 v2 v3 v4 : Value}  {st : List Value} {im : IM} {rm : RM}  : ev 65 9 [v0, v1, v2, v3, v4] st im rm = ev 65 10 [v0, v1, v2, v3, v4] (.int (nI 2) :: st) (im) (rm) := ev_iconst pm_m65 d65_9 rfl rfl
theorem d65_10 : decode prog_1_method_26_code 10 = .ok (.invokestatic 109, 3) := by decide +kernel
theorem s65_10 {v0 v1 v2 v3 v4 : Value} {p1 : Int32} {p2 : Int32} {im : IM} {rm : RM}  : ev 65 10 [v0, v1, v2, v3, v4] [.int p2, .int p1] im rm = (ev 75 0 [.int p1, .int p2] [] im rm).bind (fun r => ev 65 13 [v0, v1, v2, v3, v4] (r.1.toList ++ []) r.2.1 r.2.2) := ev_callS pm_m65 d65_10 (by decide) l7_109 rfl pm_m75 rfl ⟨rfl, rfl⟩ rfl rfl
theorem d65_13 : decode prog_1_method_26_code 13 = .ok (.ifCond .ne 6, 3) := by decide +kernel
theorem s65_13 {v0 v1 v2 v3 v4 : Value} {x : Int32} {st : List Value} {im : IM} {rm : RM} : ev 65 13 [v0, v1, v2, v3, v4] (.int x :: st) im rm = if x = nI 0 then ev 65 16 [pm_u, pm_u, pm_u, pm_u, pm_u] st im rm else ev 65 19 [v0, v1, v2, v3, pm_u] st im rm := ev_if_ne (y := 0) pm_m65 d65_13 rfl rfl rfl
theorem d65_16 : decode prog_1_method_26_code 16 = .ok (.bipush (-2), 2) := by decide +kernel
theorem s65_16 {v0 v1 v2 v3 v4 : Value}  {st : List Value} {im : IM} {rm : RM}  : ev 65 16 [v0, v1, v2, v3, v4] st im rm = ev 65 18 [v0, v1, v2, v3, v4] (.int ((-2 : Int32)) :: st) (im) (rm) := ev_bipush pm_m65 d65_16 rfl rfl
theorem d65_18 : decode prog_1_method_26_code 18 = .ok (.ireturn, 1) := by decide +kernel
theorem s65_18 {v0 v1 v2 v3 v4 : Value} {x : Int32} {im : IM} {rm : RM} : ev 65 18 [v0, v1, v2, v3, v4] [.int x] im rm = some (some (.int x), im, rm) := ev_ireturn pm_m65 d65_18 rfl
theorem d65_19 : decode prog_1_method_26_code 19 = .ok (.iload_n 3, 1) := by decide +kernel
theorem s65_19 {v0 v1 v2 v4 : Value} {l1 : Int32} {st : List Value} {im : IM} {rm : RM}  : ev 65 19 [v0, v1, v2, .int l1, v4] st im rm = ev 65 20 [v0, v1, v2, .int l1, v4] (.int l1 :: st) (im) (rm) := ev_iload_n pm_m65 d65_19 rfl rfl
theorem d65_20 : decode prog_1_method_26_code 20 = .ok (.iconst 2, 1) := by decide +kernel
theorem s65_20 {v0 v1 v2 v3 v4 : Value}  {st : List Value} {im : IM} {rm : RM}  : ev 65 20 [v0, v1, v2, v3, v4] st im rm = ev 65 21 [v0, v1, v2, v3, v4] (.int (nI 2) :: st) (im) (rm) := ev_iconst pm_m65 d65_20 rfl rfl
theorem d65_21 : decode prog_1_method_26_code 21 = .ok (.invokestatic 109, 3) := by decide +kernel
theorem s65_21 {v0 v1 v2 v3 v4 : Value} {p1 : Int32} {p2 : Int32} {im : IM} {rm : RM}  : ev 65 21 [v0, v1, v2, v3, v4] [.int p2, .int p1] im rm = (ev 75 0 [.int p1, .int p2] [] im rm).bind (fun r => ev 65 24 [v0, v1, v2, v3, v4] (r.1.toList ++ []) r.2.1 r.2.2) := ev_callS pm_m65 d65_21 (by decide) l7_109 rfl pm_m75 rfl ⟨rfl, rfl⟩ rfl rfl
theorem d65_24 : decode prog_1_method_26_code 24 = .ok (.ifCond .ne 6, 3) := by decide +kernel
theorem s65_24 {v0 v1 v2 v3 v4 : Value} {x : Int32} {st : List Value} {im : IM} {rm : RM} : ev 65 24 [v0, v1, v2, v3, v4] (.int x :: st) im rm = if x = nI 0 then ev 65 27 [v0, v1, v2, v3, v4] st im rm else ev 65 30 [v0, v1, v2, v3, pm_u] st im rm := ev_if_ne (y := 0) pm_m65 d65_24 rfl rfl rfl
theorem d65_27 : decode prog_1_method_26_code 27 = .ok (.bipush (-3), 2) := by decide +kernel
theorem s65_27 {v0 v1 v2 v3 v4 : Value}  {st : List Value} {im : IM} {rm : RM}  : ev 65 27 [v0, v1, v2, v3, v4] st im rm = ev 65 29 [v0, v1, v2, v3, v4] (.int ((-3 : Int32)) :: st) (im) (rm) := ev_bipush pm_m65 d65_27 rfl rfl
theorem d65_29 : decode prog_1_method_26_code 29 = .ok (.ireturn, 1) := by decide +kernel
theorem s65_29 {v0 v1 v2 v3 v4 : Value} {x : Int32} {im : IM} {rm : RM} : ev 65 29 [v0, v1, v2, v3, v4] [.int x] im rm = some (some (.int x), im, rm) := ev_ireturn pm_m65 d65_29 rfl
theorem d65_30 : decode prog_1_method_26_code 30 = .ok (.aload_n 0, 1) := by decide +kernel
theorem s65_30 {v1 v2 v3 v4 : Value} {l1 : Nat} {st : List Value} {im : IM} {rm : RM}  : ev 65 30 [.ref l1, v1, v2, v3, v4] st im rm = ev 65 31 [.ref l1, v1, v2, v3, v4] (.ref l1 :: st) (im) (rm) := ev_aload_n pm_m65 d65_30 rfl rfl
theorem d65_31 : decode prog_1_method_26_code 31 = .ok (.invokevirtual 233, 3) := by decide +kernel
theorem s65_31 {v0 v1 v2 v3 v4 : Value} {a : Nat} {im : IM} {rm : RM} (hk : kd a = 17) : ev 65 31 [v0, v1, v2, v3, v4] [.ref a] im rm = (ev 82 0 [.ref a, pm_u] [] im rm).bind (fun r => ev 65 34 [v0, v1, v2, v3, v4] (r.1.toList ++ []) r.2.1 r.2.2) := ev_callV pm_m65 d65_31 l7_233 rfl pm_m82 (by decide) hk rfl ⟨rfl, rfl⟩ rfl rfl
theorem d65_34 : decode prog_1_method_26_code 34 = .ok (.aload_n 0, 1) := by decide +kernel
theorem s65_34 {v1 v2 v3 v4 : Value} {l1 : Nat} {st : List Value} {im : IM} {rm : RM}  : ev 65 34 [.ref l1, v1, v2, v3, v4] st im rm = ev 65 35 [.ref l1, v1, v2, v3, v4] (.ref l1 :: st) (im) (rm) := ev_aload_n pm_m65 d65_34 rfl rfl
theorem d65_35 : decode prog_1_method_26_code 35 = .ok (.iload_n 1, 1) := by decide +kernel
theorem s65_35 {v0 v2 v3 v4 : Value} {l1 : Int32} {st : List Value} {im : IM} {rm : RM}  : ev 65 35 [v0, .int l1, v2, v3, v4] st im rm = ev 65 36 [v0, .int l1, v2, v3, v4] (.int l1 :: st) (im) (rm) := ev_iload_n pm_m65 d65_35 rfl rfl
theorem d65_36 : decode prog_1_method_26_code 36 = .ok (.aload_n 0, 1) := by decide +kernel
theorem s65_36 {v1 v2 v3 v4 : Value} {l1 : Nat} {st : List Value} {im : IM} {rm : RM}  : ev 65 36 [.ref l1, v1, v2, v3, v4] st im rm = ev 65 37 [.ref l1, v1, v2, v3, v4] (.ref l1 :: st) (im) (rm) := ev_aload_n pm_m65 d65_36 rfl rfl
theorem d65_37 : decode prog_1_method_26_code 37 = .ok (.iload_n 2, 1) := by decide +kernel
theorem s65_37 {v0 v1 v3 v4 : Value} {l1 : Int32} {st : List Value} {im : IM} {rm : RM}  : ev 65 37 [v0, v1, .int l1, v3, v4] st im rm = ev 65 38 [v0, v1, .int l1, v3, v4] (.int l1 :: st) (im) (rm) := ev_iload_n pm_m65 d65_37 rfl rfl
theorem d65_38 : decode prog_1_method_26_code 38 = .ok (.invokevirtual 264, 3) := by decide +kernel
theorem s65_38 {v0 v1 v2 v3 v4 : Value} {a : Nat} {p1 : Int32} {r2 : Int32} {r3 : Nat} {im : IM} {rm : RM} (hk : kd a = 17) : ev 65 38 [v0, v1, v2, v3, v4] [.int p1, .ref a, .int r2, .ref r3] im rm = (ev 95 0 [.ref a, .int p1, pm_u, pm_u] [] im rm).bind (fun r => ev 65 41 [v0, v1, v2, v3, v4] (r.1.toList ++ [.int r2, .ref r3]) r.2.1 r.2.2) := ev_callV pm_m65 d65_38 l7_264 rfl pm_m95 (by decide) hk rfl ⟨rfl, rfl⟩ rfl rfl
theorem d65_41 : decode prog_1_method_26_code 41 = .ok (.invokevirtual 267, 3) := by decide +kernel
theorem s65_41 {v0 v1 v2 v3 v4 : Value} {a : Nat} {p1 : Int32} {p2 : Int32} {im : IM} {rm : RM} (hk : kd a = 17) : ev 65 41 [v0, v1, v2, v3, v4] [.int p2, .int p1, .ref a] im rm = (ev 96 0 [.ref a, .int p1, .int p2, pm_u, pm_u] [] im rm).bind (fun r => ev 65 44 [v0, v1, v2, v3, v4] (r.1.toList ++ []) r.2.1 r.2.2) := ev_callV pm_m65 d65_41 l7_267 rfl pm_m96 (by decide) hk rfl ⟨rfl, rfl⟩ rfl rfl
theorem d65_44 : decode prog_1_method_26_code 44 = .ok (.istore 4, 2) := by decide +kernel
theorem s65_44 {v0 v1 v2 v4 : Value} {l1 : Int32} {x2 : Int32} {st : List Value} {im : IM} {rm : RM}  : ev 65 44 [v0, v1, v2, .int l1, v4] (.int x2 :: st) im rm = ev 65 46 [v0, v1, v2, .int l1, .int x2] st (im) (rm) := ev_istore pm_m65 d65_44 (Nat.le_of_ble_eq_true rfl) rfl rfl
theorem d65_46 : decode prog_1_method_26_code 46 = .ok (.iload_n 3, 1) := by decide +kernel
theorem s65_46 {v0 v1 v2 v4 : Value} {l1 : Int32} {st : List Value} {im : IM} {rm : RM}  : ev 65 46 [v0, v1, v2, .int l1, v4] st im rm = ev 65 47 [v0, v1, v2, .int l1, v4] (.int l1 :: st) (im) (rm) := ev_iload_n pm_m65 d65_46 rfl rfl
theorem d65_47 : decode prog_1_method_26_code 47 = .ok (.ifCond .ne 8, 3) := by decide +kernel
theorem s65_47 {v0 v1 v2 v3 v4 : Value} {x : Int32} {st : List Value} {im : IM} {rm : RM} : ev 65 47 [v0, v1, v2, v3, v4] (.int x :: st) im rm = if x = nI 0 then ev 65 50 [v0, v1, v2, v3, v4] st im rm else ev 65 55 [v0, v1, pm_u, pm_u, v4] st im rm := ev_if_ne (y := 0) pm_m65 d65_47 rfl rfl rfl
theorem d65_50 : decode prog_1_method_26_code 50 = .ok (.iload 4, 2) := by decide +kernel
theorem s65_50 {v0 v1 v2 v3 : Value} {l1 : Int32} {st : List Value} {im : IM} {rm : RM}  : ev 65 50 [v0, v1, v2, v3, .int l1] st im rm = ev 65 52 [v0, v1, v2, v3, .int l1] (.int l1 :: st) (im) (rm) := ev_iload pm_m65 d65_50 rfl rfl
theorem d65_52 : decode prog_1_method_26_code 52 = .ok (.goto 10, 3) := by decide +kernel
theorem s65_52 {v0 v1 v2 v3 v4 : Value}  {st : List Value} {im : IM} {rm : RM}  : ev 65 52 [v0, v1, v2, v3, v4] st im rm = ev 65 62 [pm_u, pm_u, pm_u, pm_u, pm_u] st (im) (rm) := ev_goto pm_m65 d65_52 rfl rfl
theorem d65_55 : decode prog_1_method_26_code 55 = .ok (.aload_n 0, 1) := by decide +kernel
theorem s65_55 {v1 v2 v3 v4 : Value} {l1 : Nat} {st : List Value} {im : IM} {rm : RM}  : ev 65 55 [.ref l1, v1, v2, v3, v4] st im rm = ev 65 56 [.ref l1, v1, v2, v3, v4] (.ref l1 :: st) (im) (rm) := ev_aload_n pm_m65 d65_55 rfl rfl
theorem d65_56 : decode prog_1_method_26_code 56 = .ok (.iload_n 1, 1) := by decide +kernel
theorem s65_56 {v0 v2 v3 v4 : Value} {l1 : Int32} {st : List Value} {im : IM} {rm : RM}  : ev 65 56 [v0, .int l1, v2, v3, v4] st im rm = ev 65 57 [v0, .int l1, v2, v3, v4] (.int l1 :: st) (im) (rm) := ev_iload_n pm_m65 d65_56 rfl rfl
theorem d65_57 : decode prog_1_method_26_code 57 = .ok (.iload 4, 2) := by decide +kernel
theorem s65_57 {v0 v1 v2 v3 : Value} {l1 : Int32} {st : List Value} {im : IM} {rm : RM}  : ev 65 57 [v0, v1, v2, v3, .int l1] st im rm = ev 65 59 [v0, v1, v2, v3, .int l1] (.int l1 :: st) (im) (rm) := ev_iload pm_m65 d65_57 rfl rfl
theorem d65_59 : decode prog_1_method_26_code 59 = .ok (.invokevirtual 270, 3) := by decide +kernel
theorem s65_59 {v0 v1 v2 v3 v4 : Value} {a : Nat} {p1 : Int32} {p2 : Int32} {im : IM} {rm : RM} (hk : kd a = 17) : ev 65 59 [v0, v1, v2, v3, v4] [.int p2, .int p1, .ref a] im rm = (ev 97 0 [.ref a, .int p1, .int p2] [] im rm).bind (fun r => ev 65 62 [pm_u, pm_u, pm_u, pm_u, pm_u] (r.1.toList ++ []) r.2.1 r.2.2) := ev_callV pm_m65 d65_59 l7_270 rfl pm_m97 (by decide) hk rfl ⟨rfl, rfl⟩ rfl rfl
theorem d65_62 : decode prog_1_method_26_code 62 = .ok (.ireturn, 1) := by decide +kernel
theorem s65_62 {v0 v1 v2 v3 v4 : Value} {x : Int32} {im : IM} {rm : RM} : ev 65 62 [v0, v1, v2, v3, v4] [.int x] im rm = some (some (.int x), im, rm) := ev_ireturn pm_m65 d65_62 rfl
theorem d66_0 : decode prog_1_method_27_code 0 = .ok (.iload_n 1, 1) := by decide +kernel
theorem s66_0 {v0 v2 v3 v4 v5 : Value} {l1 : Int32} {st : List Value} {im : IM} {rm : RM}  : ev 66 0 [v0, .int l1, v2, v3, v4, v5] st im rm = ev 66 1 [v0, .int l1, v2, v3, v4, v5] (.int l1 :: st) (im) (rm) := ev_iload_n pm_m66 d66_0 rfl rfl
theorem d66_1 : decode prog_1_method_27_code 1 = .ok (.iconst 2, 1) := by decide +kernel
theorem s66_1 {v0 v1 v2 v3 v4 v5 : Value}  {st : List Value} {im : IM} {rm : RM}  : ev 66 1 [v0, v1, v2, v3, v4, v5] st im rm = ev 66 2 [v0, v1, v2, v3, v4, v5] (.int (nI 2) :: st) (im) (rm) := ev_iconst pm_m66 d66_1 rfl rfl
theorem d66_2 : decode prog_1_method_27_code 2 = .ok (.invokestatic 109, 3) := by decide +kernel
theorem s66_2 {v0 v1 v2 v3 v4 v5 : Value} {p1 : Int32} {p2 : Int32} {im : IM} {rm : RM}  : ev 66 2 [v0, v1, v2, v3, v4, v5] [.int p2, .int p1] im rm = (ev 75 0 [.int p1, .int p2] [] im rm).bind (fun r => ev 66 5 [v0, v1, v2, v3, v4, v5] (r.1.toList ++ []) r.2.1 r.2.2) := ev_callS pm_m66 d66_2 (by decide) l7_109 rfl pm_m75 rfl ⟨rfl, rfl⟩ rfl rfl
theorem d66_5 : decode prog_1_method_27_code 5 = .ok (.ifCond .ne 6, 3) := by decide +kernel
theorem s66_5 {v0 v1 v2 v3 v4 v5 : Value} {x : Int32} {st : List Value} {im : IM} {rm : RM} : ev 66 5 [v0, v1, v2, v3, v4, v5] (.int x :: st) im rm = if x = nI 0 then ev 66 8 [v0, v1, v2, v3, v4, v5] st im rm else ev 66 11 [v0, v1, pm_u, pm_u, pm_u, pm_u] st im rm := ev_if_ne (y := 0) pm_m66 d66_5 rfl rfl rfl
theorem d66_8 : decode prog_1_method_27_code 8 = .ok (.bipush (-2), 2) := by decide +kernel
theorem s66_8 {v0 v1 v2 v3 v4 v5 : Value}  {st : List Value} {im : IM} {rm : RM}  : ev 66 8 [v0, v1, v2, v3, v4, v5] st im rm = ev 66 10 [v0, v1, v2, v3, v4, v5] (.int ((-2 : Int32)) :: st) (im) (rm) := ev_bipush pm_m66 d66_8 rfl rfl
theorem d66_10 : decode prog_1_method_27_code 10 = .ok (.ireturn, 1) := by decide +kernel
theorem s66_10 {v0 v1 v2 v3 v4 v5 : Value} {x : Int32} {im : IM} {rm : RM} : ev 66 10 [v0, v1, v2, v3, v4, v5] [.int x] im rm = some (some (.int x), im, rm) := ev_ireturn pm_m66 d66_10 rfl
theorem d66_11 : decode prog_1_method_27_code 11 = .ok (.aload_n 0, 1) := by decide +kernel
theorem s66_11 {v1 v2 v3 v4 v5 : Value} {l1 : Nat} {st : List Value} {im : IM} {rm : RM}  : ev 66 11 [.ref l1, v1, v2, v3, v4, v5] st im rm = ev 66 12 [.ref l1, v1, v2, v3, v4, v5] (.ref l1 :: st) (im) (rm) := ev_aload_n pm_m66 d66_11 rfl rfl
theorem d66_12 : decode prog_1_method_27_code 12 = .ok (.invokevirtual 233, 3) := by decide +kernel
theorem s66_12 {v0 v1 v2 v3 v4 v5 : Value} {a : Nat} {im : IM} {rm : RM} (hk : kd a = 17) : ev 66 12 [v0, v1, v2, v3, v4, v5] [.ref a] im rm = (ev 82 0 [.ref a, pm_u] [] im rm).bind (fun r => ev 66 15 [v0, v1, v2, v3, v4, v5] (r.1.toList ++ []) r.2.1 r.2.2) := ev_callV pm_m66 d66_12 l7_233 rfl pm_m82 (by decide) hk rfl ⟨rfl, rfl⟩ rfl rfl
theorem d66_15 : decode prog_1_method_27_code 15 = .ok (.aload_n 0, 1) := by decide +kernel
theorem s66_15 {v1 v2 v3 v4 v5 : Value} {l1 : Nat} {st : List Value} {im : IM} {rm : RM}  : ev 66 15 [.ref l1, v1, v2, v3, v4, v5] st im rm = ev 66 16 [.ref l1, v1, v2, v3, v4, v5] (.ref l1 :: st) (im) (rm) := ev_aload_n pm_m66 d66_15 rfl rfl
theorem d66_16 : decode prog_1_method_27_code 16 = .ok (.iload_n 1, 1) := by decide +kernel
theorem s66_16 {v0 v2 v3 v4 v5 : Value} {l1 : Int32} {st : List Value} {im : IM} {rm : RM}  : ev 66 16 [v0, .int l1, v2, v3, v4, v5] st im rm = ev 66 17 [v0, .int l1, v2, v3, v4, v5] (.int l1 :: st) (im) (rm) := ev_iload_n pm_m66 d66_16 rfl rfl
theorem d66_17 : decode prog_1_method_27_code 17 = .ok (.invokevirtual 264, 3) := by decide +kernel
theorem s66_17 {v0 v1 v2 v3 v4 v5 : Value} {a : Nat} {p1 : Int32} {im : IM} {rm : RM} (hk : kd a = 17) : ev 66 17 [v0, v1, v2, v3, v4, v5] [.int p1, .ref a] im rm = (ev 95 0 [.ref a, .int p1, pm_u, pm_u] [] im rm).bind (fun r => ev 66 20 [v0, v1, v2, v3, v4, v5] (r.1.toList ++ []) r.2.1 r.2.2) := ev_callV pm_m66 d66_17 l7_264 rfl pm_m95 (by decide) hk rfl ⟨rfl, rfl⟩ rfl rfl
theorem d66_20 : decode prog_1_method_27_code 20 = .ok (.istore_n 2, 1) := by decide +kernel
theorem s66_20 {v0 v2 v3 v4 v5 : Value} {l1 : Int32} {x2 : Int32} {st : List Value} {im : IM} {rm : RM}  : ev 66 20 [v0, .int l1, v2, v3, v4, v5] (.int x2 :: st) im rm = ev 66 21 [v0, .int l1, .int x2, v3, v4, v5] st (im) (rm) := ev_istore_n pm_m66 d66_20 (Nat.le_of_ble_eq_true rfl) rfl rfl
theorem d66_21 : decode prog_1_method_27_code 21 = .ok (.lconst 0, 1) := by decide +kernel
theorem s66_21 {v0 v1 v2 v3 v4 v5 : Value}  {st : List Value} {im : IM} {rm : RM}  : ev 66 21 [v0, v1, v2, v3, v4, v5] st im rm = ev 66 22 [v0, v1, v2, v3, v4, v5] (.long (lN 0) :: st) (im) (rm) := ev_lconst pm_m66 d66_21 rfl rfl
theorem d66_22 : decode prog_1_method_27_code 22 = .ok (.lstore_n 3, 1) := by decide +kernel
theorem s66_22 {v0 v1 v3 v4 v5 : Value} {l1 : Int32} {x2 : Int64} {st : List Value} {im : IM} {rm : RM}  : ev 66 22 [v0, v1, .int l1, v3, v4, v5] (.long x2 :: st) im rm = ev 66 23 [v0, v1, .int l1, .long x2, pm_u, v5] st (im) (rm) := ev_lstore_n pm_m66 d66_22 (Nat.le_of_ble_eq_true rfl) rfl rfl
theorem d66_23 : decode prog_1_method_27_code 23 = .ok (.iconst 0, 1) := by decide +kernel
theorem s66_23 {v0 v1 v2 v3 v4 v5 : Value}  {st : List Value} {im : IM} {rm : RM}  : ev 66 23 [v0, v1, v2, v3, v4, v5] st im rm = ev 66 24 [v0, v1, v2, v3, v4, v5] (.int (nI 0) :: st) (im) (rm) := ev_iconst pm_m66 d66_23 rfl rfl
theorem d66_24 : decode prog_1_method_27_code 24 = .ok (.istore 5, 2) := by decide +kernel
theorem s66_24 {v0 v1 v2 v3 v5 : Value} {x1 : Int32} {st : List Value} {im : IM} {rm : RM}  : ev 66 24 [v0, v1, v2, v3, pm_u, v5] (.int x1 :: st) im rm = ev 66 26 [v0, pm_u, v2, v3, pm_u, .int x1] st (im) (rm) := ev_istore pm_m66 d66_24 (Nat.le_of_ble_eq_true rfl) rfl rfl
theorem d66_26 : decode prog_1_method_27_code 26 = .ok (.iload 5, 2) := by decide +kernel
theorem s66_26 {v0 v1 v2 v3 v4 : Value} {l1 : Int32} {st : List Value} {im : IM} {rm : RM}  : ev 66 26 [v0, v1, v2, v3, v4, .int l1] st im rm = ev 66 28 [v0, v1, v2, v3, v4, .int l1] (.int l1 :: st) (im) (rm) := ev_iload pm_m66 d66_26 rfl rfl
theorem d66_28 : decode prog_1_method_27_code 28 = .ok (.iconst 4, 1) := by decide +kernel
theorem s66_28 {v0 v1 v2 v3 v4 v5 : Value}  {st : List Value} {im : IM} {rm : RM}  : ev 66 28 [v0, v1, v2, v3, v4, v5] st im rm = ev 66 29 [v0, v1, v2, v3, v4, v5] (.int (nI 4) :: st) (im) (rm) := ev_iconst pm_m66 d66_28 rfl rfl
theorem d66_29 : decode prog_1_method_27_code 29 = .ok (.if_icmp .ge 35, 3) := by decide +kernel
theorem s66_29 {v0 v1 v2 v3 v4 v5 : Value} {x : Int32} {y : Int32} {st : List Value} {im : IM} {rm : RM} : ev 66 29 [v0, v1, v2, v3, v4, v5] (.int y :: .int x :: st) im rm = if y ≤ x then ev 66 64 [pm_u, pm_u, pm_u, v3, pm_u, pm_u] st im rm else ev 66 32 [v0, v1, v2, v3, v4, v5] st im rm := ev_icmp_ge pm_m66 d66_29 rfl rfl rfl
theorem d66_32 : decode prog_1_method_27_code 32 = .ok (.lload_n 3, 1) := by decide +kernel
theorem s66_32 {v0 v1 v2 v4 v5 : Value} {l1 : Int64} {st : List Value} {im : IM} {rm : RM}  : ev 66 32 [v0, v1, v2, .long l1, v4, v5] st im rm = ev 66 33 [v0, v1, v2, .long l1, v4, v5] (.long l1 :: st) (im) (rm) := ev_lload_n pm_m66 d66_32 rfl rfl
theorem d66_33 : decode prog_1_method_27_code 33 = .ok (.aload_n 0, 1) := by decide +kernel
theorem s66_33 {v1 v2 v3 v4 v5 : Value} {l1 : Nat} {st : List Value} {im : IM} {rm : RM}  : ev 66 33 [.ref l1, v1, v2, v3, v4, v5] st im rm = ev 66 34 [.ref l1, v1, v2, v3, v4, v5] (.ref l1 :: st) (im) (rm) := ev_aload_n pm_m66 d66_33 rfl rfl
theorem d66_34 : decode prog_1_method_27_code 34 = .ok (.getfield 46, 3) := by decide +kernel
theorem s66_34 {v0 v1 v2 v3 v4 v5 : Value} {a : Nat} {st : List Value} {im : IM} {rm : RM} (hk : kd a = 17) : ev 66 34 [v0, v1, v2, v3, v4, v5] (.ref a :: st) im rm = ev 66 37 [v0, v1, v2, v3, v4, v5] (pm_ro (rm a 6) :: st) (im) (rm) := ev_getR pm_m66 d66_34 f7_46 rfl hk rfl
theorem d66_37 : decode prog_1_method_27_code 37 = .ok (.iload 5, 2) := by decide +kernel
theorem s66_37 {v0 v1 v2 v3 v4 : Value} {l1 : Int32} {st : List Value} {im : IM} {rm : RM}  : ev 66 37 [v0, v1, v2, v3, v4, .int l1] st im rm = ev 66 39 [v0, v1, v2, v3, v4, .int l1] (.int l1 :: st) (im) (rm) := ev_iload pm_m66 d66_37 rfl rfl
theorem d66_39 : decode prog_1_method_27_code 39 = .ok (.iaload, 1) := by decide +kernel
theorem s66_39 {v0 v1 v2 v3 v4 v5 : Value} {a : Nat} {i : Int32} {st : List Value} {im : IM} {rm : RM} (hk : kd a = 0) (hi : pm_in i (ln a) = true) : ev 66 39 [v0, v1, v2, v3, v4, v5] (.int i :: .ref a :: st) im rm = ev 66 40 [v0, v1, v2, v3, v4, v5] (.int (im a i.toNatClampNeg) :: st) (im) (rm) := ev_iald pm_m66 d66_39 hk hi rfl
theorem d66_40 : decode prog_1_method_27_code 40 = .ok (.i2l, 1) := by decide +kernel
theorem s66_40 {v0 v1 v2 v3 v4 v5 : Value} {x : Int32} {st : List Value} {im : IM} {rm : RM}  : ev 66 40 [v0, v1, v2, v3, v4, v5] (.int x :: st) im rm = ev 66 41 [v0, v1, v2, v3, v4, v5] (.long x.toInt64 :: st) (im) (rm) := ev_i2l pm_m66 d66_40 rfl
theorem d66_41 : decode prog_1_method_27_code 41 = .ok (.aload_n 0, 1) := by decide +kernel
theorem s66_41 {v1 v2 v3 v4 v5 : Value} {l1 : Nat} {st : List Value} {im : IM} {rm : RM}  : ev 66 41 [.ref l1, v1, v2, v3, v4, v5] st im rm = ev 66 42 [.ref l1, v1, v2, v3, v4, v5] (.ref l1 :: st) (im) (rm) := ev_aload_n pm_m66 d66_41 rfl rfl
theorem d66_42 : decode prog_1_method_27_code 42 = .ok (.iload 5, 2) := by decide +kernel
theorem s66_42 {v0 v1 v2 v3 v4 : Value} {l1 : Int32} {st : List Value} {im : IM} {rm : RM}  : ev 66 42 [v0, v1, v2, v3, v4, .int l1] st im rm = ev 66 44 [v0, v1, v2, v3, v4, .int l1] (.int l1 :: st) (im) (rm) := ev_iload pm_m66 d66_42 rfl rfl
theorem d66_44 : decode prog_1_method_27_code 44 = .ok (.aload_n 0, 1) := by decide +kernel
theorem s66_44 {v1 v2 v3 v4 v5 : Value} {l1 : Nat} {st : List Value} {im : IM} {rm : RM}  : ev 66 44 [.ref l1, v1, v2, v3, v4, v5] st im rm = ev 66 45 [.ref l1, v1, v2, v3, v4, v5] (.ref l1 :: st) (im) (rm) := ev_aload_n pm_m66 d66_44 rfl rfl
theorem d66_45 : decode prog_1_method_27_code 45 = .ok (.iload 5, 2) := by decide +kernel
theorem s66_45 {v0 v1 v2 v3 v4 : Value} {l1 : Int32} {st : List Value} {im : IM} {rm : RM}  : ev 66 45 [v0, v1, v2, v3, v4, .int l1] st im rm = ev 66 47 [v0, v1, v2, v3, v4, .int l1] (.int l1 :: st) (im) (rm) := ev_iload pm_m66 d66_45 rfl rfl
theorem d66_47 : decode prog_1_method_27_code 47 = .ok (.iload_n 2, 1) := by decide +kernel
theorem s66_47 {v0 v1 v3 v4 v5 : Value} {l1 : Int32} {st : List Value} {im : IM} {rm : RM}  : ev 66 47 [v0, v1, .int l1, v3, v4, v5] st im rm = ev 66 48 [v0, v1, .int l1, v3, v4, v5] (.int l1 :: st) (im) (rm) := ev_iload_n pm_m66 d66_47 rfl rfl
theorem d66_48 : decode prog_1_method_27_code 48 = .ok (.invokevirtual 267, 3) := by decide +kernel
theorem s66_48 {v0 v1 v2 v3 v4 v5 : Value} {a : Nat} {p1 : Int32} {p2 : Int32} {r3 : Int32} {r4 : Nat} {r5 : Int64} {r6 : Int64} {im : IM} {rm : RM} (hk : kd a = 17) : ev 66 48 [v0, v1, v2, v3, v4, v5] [.int p2, .int p1, .ref a, .int r3, .ref r4, .long r5, .long r6] im rm = (ev 96 0 [.ref a, .int p1, .int p2, pm_u, pm_u] [] im rm).bind (fun r => ev 66 51 [v0, v1, v2, v3, v4, v5] (r.1.toList ++ [.int r3, .ref r4, .long r5, .long r6]) r.2.1 r.2.2) := ev_callV pm_m66 d66_48 l7_267 rfl pm_m96 (by decide) hk rfl ⟨rfl, rfl⟩ rfl rfl
theorem d66_51 : decode prog_1_method_27_code 51 = .ok (.invokevirtual 270, 3) := by decide +kernel
theorem s66_51 {v0 v1 v2 v3 v4 v5 : Value} {a : Nat} {p1 : Int32} {p2 : Int32} {r3 : Int64} {r4 : Int64} {im : IM} {rm : RM} (hk : kd a = 17) : ev 66 51 [v0, v1, v2, v3, v4, v5] [.int p2, .int p1, .ref a, .long r3, .long r4] im rm = (ev 97 0 [.ref a, .int p1, .int p2] [] im rm).bind (fun r => ev 66 54 [v0, v1, v2, v3, v4, v5] (r.1.toList ++ [.long r3, .long r4]) r.2.1 r.2.2) := ev_callV pm_m66 d66_51 l7_270 rfl pm_m97 (by decide) hk rfl ⟨rfl, rfl⟩ rfl rfl
theorem d66_54 : decode prog_1_method_27_code 54 = .ok (.i2l, 1) := by decide +kernel
theorem s66_54 {v0 v1 v2 v3 v4 v5 : Value} {x : Int32} {st : List Value} {im : IM} {rm : RM}  : ev 66 54 [v0, v1, v2, v3, v4, v5] (.int x :: st) im rm = ev 66 55 [v0, v1, v2, v3, v4, v5] (.long x.toInt64 :: st) (im) (rm) := ev_i2l pm_m66 d66_54 rfl
theorem d66_55 : decode prog_1_method_27_code 55 = .ok (.lmul, 1) := by decide +kernel
theorem s66_55 {v0 v1 v2 v3 v4 v5 : Value} {x : Int64} {y : Int64} {st : List Value} {im : IM} {rm : RM}  : ev 66 55 [v0, v1, v2, v3, v4, v5] (.long y :: .long x :: st) im rm = ev 66 56 [v0, v1, v2, v3, v4, v5] (.long (x * y) :: st) (im) (rm) := ev_lmul pm_m66 d66_55 rfl
theorem d66_56 : decode prog_1_method_27_code 56 = .ok (.ladd, 1) := by decide +kernel
theorem s66_56 {v0 v1 v2 v3 v4 v5 : Value} {x : Int64} {y : Int64} {st : List Value} {im : IM} {rm : RM}  : ev 66 56 [v0, v1, v2, v3, v4, v5] (.long y :: .long x :: st) im rm = ev 66 57 [v0, v1, v2, v3, v4, v5] (.long (x + y) :: st) (im) (rm) := ev_ladd pm_m66 d66_56 rfl
theorem d66_57 : decode prog_1_method_27_code 57 = .ok (.lstore_n 3, 1) := by decide +kernel
theorem s66_57 {v0 v1 v3 v4 v5 : Value} {l1 : Int32} {x2 : Int64} {st : List Value} {im : IM} {rm : RM}  : ev 66 57 [v0, v1, .int l1, v3, v4, v5] (.long x2 :: st) im rm = ev 66 58 [v0, v1, .int l1, .long x2, pm_u, v5] st (im) (rm) := ev_lstore_n pm_m66 d66_57 (Nat.le_of_ble_eq_true rfl) rfl rfl
theorem d66_58 : decode prog_1_method_27_code 58 = .ok (.iinc 5 1, 3) := by decide +kernel
theorem s66_58 {v0 v1 v2 v3 : Value} {l1 : Int32} {st : List Value} {im : IM} {rm : RM}  : ev 66 58 [v0, v1, v2, v3, pm_u, .int l1] st im rm = ev 66 61 [v0, v1, v2, v3, pm_u, .int (l1 + nI 1)] st (im) (rm) := ev_iinc pm_m66 d66_58 rfl rfl rfl rfl
theorem d66_61 : decode prog_1_method_27_code 61 = .ok (.goto (-35), 3) := by decide +kernel
theorem s66_61 {v0 v1 v2 v3 v4 v5 : Value}  {st : List Value} {im : IM} {rm : RM}  : ev 66 61 [v0, v1, v2, v3, v4, v5] st im rm = ev 66 26 [v0, pm_u, v2, v3, pm_u, v5] st (im) (rm) := ev_goto pm_m66 d66_61 rfl rfl
theorem d66_64 : decode prog_1_method_27_code 64 = .ok (.lload_n 3, 1) := by decide +kernel
theorem s66_64 {v0 v1 v2 v4 v5 : Value} {l1 : Int64} {st : List Value} {im : IM} {rm : RM}  : ev 66 64 [v0, v1, v2, .long l1, v4, v5] st im rm = ev 66 65 [v0, v1, v2, .long l1, v4, v5] (.long l1 :: st) (im) (rm) := ev_lload_n pm_m66 d66_64 rfl rfl
theorem d66_65 : decode prog_1_method_27_code 65 = .ok (.ldc2_w 273, 3) := by decide +kernel
theorem s66_65 {v0 v1 v2 v3 v4 v5 : Value}  {st : List Value} {im : IM} {rm : RM}  : ev 66 65 [v0, v1, v2, v3, v4, v5] st im rm = ev 66 68 [v0, v1, v2, v3, v4, v5] (.long (lN 999999999) :: st) (im) (rm) := ev_ldc2 pm_m66 d66_65 (by decide +kernel) rfl
theorem d66_68 : decode prog_1_method_27_code 68 = .ok (.invokestatic 275, 3) := by decide +kernel
theorem s66_68 {v0 v1 v2 v3 v4 v5 : Value} {p1 : Int64} {p2 : Int64} {im : IM} {rm : RM}  : ev 66 68 [v0, v1, v2, v3, v4, v5] [.long p2, .long p1] im rm = (ev 177 0 [.long p1, pm_u, .long p2, pm_u] [] im rm).bind (fun r => ev 66 71 [v0, v1, v2, v3, v4, v5] (r.1.toList ++ []) r.2.1 r.2.2) := ev_callS pm_m66 d66_68 (by decide) l7_275 rfl pm_m177 rfl ⟨rfl, rfl⟩ rfl rfl
theorem d66_71 : decode prog_1_method_27_code 71 = .ok (.l2i, 1) := by decide +kernel
theorem s66_71 {v0 v1 v2 v3 v4 v5 : Value} {x : Int64} {st : List Value} {im : IM} {rm : RM}  : ev 66 71 [v0, v1, v2, v3, v4, v5] (.long x :: st) im rm = ev 66 72 [v0, v1, v2, v3, v4, v5] (.int x.toInt32 :: st) (im) (rm) := ev_l2i pm_m66 d66_71 rfl
theorem d66_72 : decode prog_1_method_27_code 72 = .ok (.ireturn, 1) := by decide +kernel
theorem s66_72 {v0 v1 v2 v3 v4 v5 : Value} {x : Int32} {im : IM} {rm : RM} : ev 66 72 [v0, v1, v2, v3, v4, v5] [.int x] im rm = some (some (.int x), im, rm) := ev_ireturn pm_m66 d66_72 rfl
theorem d67_0 : decode prog_1_method_28_code 0 = .ok (.iload_n 1, 1) := by decide +kernel
theorem s67_0 {v0 v2 v3 : Value} {l1 : Int32} {st : List Value} {im : IM} {rm : RM}  : ev 67 0 [v0, .int l1, v2, v3] st im rm = ev 67 1 [v0, .int l1, v2, v3] (.int l1 :: st) (im) (rm) := ev_iload_n pm_m67 d67_0 rfl rfl
theorem d67_1 : decode prog_1_method_28_code 1 = .ok (.bipush 6, 2) := by decide +kernel
theorem s67_1 {v0 v1 v2 v3 : Value}  {st : List Value} {im : IM} {rm : RM}  : ev 67 1 [v0, v1, v2, v3] st im rm = ev 67 3 [v0, v1, v2, v3] (.int (nI 6) :: st) (im) (rm) := ev_bipush pm_m67 d67_1 rfl rfl
theorem d67_3 : decode prog_1_method_28_code 3 = .ok (.invokestatic 109, 3) := by decide +kernel
theorem s67_3 {v0 v1 v2 v3 : Value} {p1 : Int32} {p2 : Int32} {im : IM} {rm : RM}  : ev 67 3 [v0, v1, v2, v3] [.int p2, .int p1] im rm = (ev 75 0 [.int p1, .int p2] [] im rm).bind (fun r => ev 67 6 [v0, v1, v2, v3] (r.1.toList ++ []) r.2.1 r.2.2) := ev_callS pm_m67 d67_3 (by decide) l7_109 rfl pm_m75 rfl ⟨rfl, rfl⟩ rfl rfl
theorem d67_6 : decode prog_1_method_28_code 6 = .ok (.ifCond .ne 6, 3) := by decide +kernel
theorem s67_6 {v0 v1 v2 v3 : Value} {x : Int32} {st : List Value} {im : IM} {rm : RM} : ev 67 6 [v0, v1, v2, v3] (.int x :: st) im rm = if x = nI 0 then ev 67 9 [v0, v1, v2, v3] st im rm else ev 67 12 [v0, v1, v2, pm_u] st im rm := ev_if_ne (y := 0) pm_m67 d67_6 rfl rfl rfl
theorem d67_9 : decode prog_1_method_28_code 9 = .ok (.bipush (-2), 2) := by decide +kernel
theorem s67_9 {v0 v1 v2 v3 : Value}  {st : List Value} {im : IM} {rm : RM}  : ev 67 9 [v0, v1, v2, v3] st im rm = ev 67 11 [v0, v1, v2, v3] (.int ((-2 : Int32)) :: st) (im) (rm) := ev_bipush pm_m67 d67_9 rfl rfl
theorem d67_11 : decode prog_1_method_28_code 11 = .ok (.ireturn, 1) := by decide +kernel
theorem s67_11 {v0 v1 v2 v3 : Value} {x : Int32} {im : IM} {rm : RM} : ev 67 11 [v0, v1, v2, v3] [.int x] im rm = some (some (.int x), im, rm) := ev_ireturn pm_m67 d67_11 rfl
theorem d67_12 : decode prog_1_method_28_code 12 = .ok (.iload_n 2, 1) := by decide +kernel
theorem s67_12 {v0 v1 v3 : Value} {l1 : Int32} {st : List Value} {im : IM} {rm : RM}  : ev 67 12 [v0, v1, .int l1, v3] st im rm = ev 67 13 [v0, v1, .int l1, v3] (.int l1 :: st) (im) (rm) := ev_iload_n pm_m67 d67_12 rfl rfl
theorem d67_13 : decode prog_1_method_28_code 13 = .ok (.bipush 99, 2) := by decide +kernel
theorem s67_13 {v0 v1 v2 v3 : Value}  {st : List Value} {im : IM} {rm : RM}  : ev 67 13 [v0, v1, v2, v3] st im rm = ev 67 15 [v0, v1, v2, v3] (.int (nI 99) :: st) (im) (rm) := ev_bipush pm_m67 d67_13 rfl rfl
theorem d67_15 : decode prog_1_method_28_code 15 = .ok (.invokestatic 117, 3) := by decide +kernel
theorem s67_15 {v0 v1 v2 v3 : Value} {p1 : Int32} {p2 : Int32} {im : IM} {rm : RM}  : ev 67 15 [v0, v1, v2, v3] [.int p2, .int p1] im rm = (ev 76 0 [.int p1, .int p2] [] im rm).bind (fun r => ev 67 18 [v0, v1, v2, v3] (r.1.toList ++ []) r.2.1 r.2.2) := ev_callS pm_m67 d67_15 (by decide) l7_117 rfl pm_m76 rfl ⟨rfl, rfl⟩ rfl rfl
theorem d67_18 : decode prog_1_method_28_code 18 = .ok (.ifCond .ne 6, 3) := by decide +kernel
theorem s67_18 {v0 v1 v2 v3 : Value} {x : Int32} {st : List Value} {im : IM} {rm : RM} : ev 67 18 [v0, v1, v2, v3] (.int x :: st) im rm = if x = nI 0 then ev 67 21 [v0, v1, v2, v3] st im rm else ev 67 24 [v0, v1, v2, pm_u] st im rm := ev_if_ne (y := 0) pm_m67 d67_18 rfl rfl rfl
theorem d67_21 : decode prog_1_method_28_code 21 = .ok (.bipush (-3), 2) := by decide +kernel
theorem s67_21 {v0 v1 v2 v3 : Value}  {st : List Value} {im : IM} {rm : RM}  : ev 67 21 [v0, v1, v2, v3] st im rm = ev 67 23 [v0, v1, v2, v3] (.int ((-3 : Int32)) :: st) (im) (rm) := ev_bipush pm_m67 d67_21 rfl rfl
theorem d67_23 : decode prog_1_method_28_code 23 = .ok (.ireturn, 1) := by decide +kernel
theorem s67_23 {v0 v1 v2 v3 : Value} {x : Int32} {im : IM} {rm : RM} : ev 67 23 [v0, v1, v2, v3] [.int x] im rm = some (some (.int x), im, rm) := ev_ireturn pm_m67 d67_23 rfl
theorem d67_24 : decode prog_1_method_28_code 24 = .ok (.aload_n 0, 1) := by decide +kernel
theorem s67_24 {v1 v2 v3 : Value} {l1 : Nat} {st : List Value} {im : IM} {rm : RM}  : ev 67 24 [.ref l1, v1, v2, v3] st im rm = ev 67 25 [.ref l1, v1, v2, v3] (.ref l1 :: st) (im) (rm) := ev_aload_n pm_m67 d67_24 rfl rfl
theorem d67_25 : decode prog_1_method_28_code 25 = .ok (.getfield 11, 3) := by decide +kernel
theorem s67_25 {v0 v1 v2 v3 : Value} {a : Nat} {st : List Value} {im : IM} {rm : RM} (hk : kd a = 17) : ev 67 25 [v0, v1, v2, v3] (.ref a :: st) im rm = ev 67 28 [v0, v1, v2, v3] (pm_ro (rm a 0) :: st) (im) (rm) := ev_getR pm_m67 d67_25 f7_11 rfl hk rfl
theorem d67_28 : decode prog_1_method_28_code 28 = .ok (.iload_n 1, 1) := by decide +kernel
theorem s67_28 {v0 v2 v3 : Value} {l1 : Int32} {st : List Value} {im : IM} {rm : RM}  : ev 67 28 [v0, .int l1, v2, v3] st im rm = ev 67 29 [v0, .int l1, v2, v3] (.int l1 :: st) (im) (rm) := ev_iload_n pm_m67 d67_28 rfl rfl
theorem d67_29 : decode prog_1_method_28_code 29 = .ok (.aaload, 1) := by decide +kernel
theorem s67_29 {v0 v1 v2 v3 : Value} {a : Nat} {i : Int32} {st : List Value} {im : IM} {rm : RM} (hk : 2 ≤ kd a ∧ kd a ≤ 5) (hi : pm_in i (ln a) = true) : ev 67 29 [v0, v1, v2, v3] (.int i :: .ref a :: st) im rm = ev 67 30 [v0, v1, v2, v3] (pm_ro (rm a i.toNatClampNeg) :: st) (im) (rm) := ev_aald pm_m67 d67_29 hk hi rfl
theorem d67_30 : decode prog_1_method_28_code 30 = .ok (.getfield 278, 3) := by decide +kernel
theorem s67_30 {v0 v1 v2 v3 : Value} {a : Nat} {st : List Value} {im : IM} {rm : RM} (hk : kd a = 10) : ev 67 30 [v0, v1, v2, v3] (.ref a :: st) im rm = ev 67 33 [v0, v1, v2, v3] (.int (im a 3) :: st) (im) (rm) := ev_getI pm_m67 d67_30 f7_278 rfl hk rfl
theorem d67_33 : decode prog_1_method_28_code 33 = .ok (.istore_n 3, 1) := by decide +kernel
theorem s67_33 {v0 v1 v3 : Value} {l1 : Int32} {x2 : Int32} {st : List Value} {im : IM} {rm : RM}  : ev 67 33 [v0, v1, .int l1, v3] (.int x2 :: st) im rm = ev 67 34 [v0, v1, .int l1, .int x2] st (im) (rm) := ev_istore_n pm_m67 d67_33 (Nat.le_of_ble_eq_true rfl) rfl rfl
theorem d67_34 : decode prog_1_method_28_code 34 = .ok (.aload_n 0, 1) := by decide +kernel
theorem s67_34 {v1 v2 v3 : Value} {l1 : Nat} {st : List Value} {im : IM} {rm : RM}  : ev 67 34 [.ref l1, v1, v2, v3] st im rm = ev 67 35 [.ref l1, v1, v2, v3] (.ref l1 :: st) (im) (rm) := ev_aload_n pm_m67 d67_34 rfl rfl
theorem d67_35 : decode prog_1_method_28_code 35 = .ok (.getfield 11, 3) := by decide +kernel
theorem s67_35 {v0 v1 v2 v3 : Value} {a : Nat} {st : List Value} {im : IM} {rm : RM} (hk : kd a = 17) : ev 67 35 [v0, v1, v2, v3] (.ref a :: st) im rm = ev 67 38 [v0, v1, v2, v3] (pm_ro (rm a 0) :: st) (im) (rm) := ev_getR pm_m67 d67_35 f7_11 rfl hk rfl
theorem d67_38 : decode prog_1_method_28_code 38 = .ok (.iload_n 1, 1) := by decide +kernel
theorem s67_38 {v0 v2 v3 : Value} {l1 : Int32} {st : List Value} {im : IM} {rm : RM}  : ev 67 38 [v0, .int l1, v2, v3] st im rm = ev 67 39 [v0, .int l1, v2, v3] (.int l1 :: st) (im) (rm) := ev_iload_n pm_m67 d67_38 rfl rfl
theorem d67_39 : decode prog_1_method_28_code 39 = .ok (.aaload, 1) := by decide +kernel
theorem s67_39 {v0 v1 v2 v3 : Value} {a : Nat} {i : Int32} {st : List Value} {im : IM} {rm : RM} (hk : 2 ≤ kd a ∧ kd a ≤ 5) (hi : pm_in i (ln a) = true) : ev 67 39 [v0, v1, v2, v3] (.int i :: .ref a :: st) im rm = ev 67 40 [v0, v1, v2, v3] (pm_ro (rm a i.toNatClampNeg) :: st) (im) (rm) := ev_aald pm_m67 d67_39 hk hi rfl
theorem d67_40 : decode prog_1_method_28_code 40 = .ok (.iload_n 2, 1) := by decide +kernel
theorem s67_40 {v0 v1 v3 : Value} {l1 : Int32} {st : List Value} {im : IM} {rm : RM}  : ev 67 40 [v0, v1, .int l1, v3] st im rm = ev 67 41 [v0, v1, .int l1, v3] (.int l1 :: st) (im) (rm) := ev_iload_n pm_m67 d67_40 rfl rfl
theorem d67_41 : decode prog_1_method_28_code 41 = .ok (.putfield 278, 3) := by decide +kernel
theorem s67_41 {v0 v1 v2 v3 : Value} {a : Nat} {v : Int32} {st : List Value} {im : IM} {rm : RM} (hk : kd a = 10) : ev 67 41 [v0, v1, v2, v3] (.int v :: .ref a :: st) im rm = ev 67 44 [v0, v1, v2, v3] st (pm_w2 im a 3 v) (rm) := ev_putI pm_m67 d67_41 f7_278 rfl rfl hk rfl
theorem d67_44 : decode prog_1_method_28_code 44 = .ok (.iload_n 3, 1) := by decide +kernel
theorem s67_44 {v0 v1 v2 : Value} {l1 : Int32} {st : List Value} {im : IM} {rm : RM}  : ev 67 44 [v0, v1, v2, .int l1] st im rm = ev 67 45 [v0, v1, v2, .int l1] (.int l1 :: st) (im) (rm) := ev_iload_n pm_m67 d67_44 rfl rfl
theorem d67_45 : decode prog_1_method_28_code 45 = .ok (.ireturn, 1) := by decide +kernel
theorem s67_45 {v0 v1 v2 v3 : Value} {x : Int32} {im : IM} {rm : RM} : ev 67 45 [v0, v1, v2, v3] [.int x] im rm = some (some (.int x), im, rm) := ev_ireturn pm_m67 d67_45 rfl
theorem d68_0 : decode prog_1_method_29_code 0 = .ok (.iload_n 1, 1) := by decide +kernel
theorem s68_0 {v0 v2 v3 v4 v5 v6 : Value} {l1 : Int32} {st : List Value} {im : IM} {rm : RM}  : ev 68 0 [v0, .int l1, v2, v3, v4, v5, v6] st im rm = ev 68 1 [v0, .int l1, v2, v3, v4, v5, v6] (.int l1 :: st) (im) (rm) := ev_iload_n pm_m68 d68_0 rfl rfl
theorem d68_1 : decode prog_1_method_29_code 1 = .ok (.ldc_w 281, 3) := by decide +kernel
theorem s68_1 {v0 v1 v2 v3 v4 v5 v6 : Value}  {st : List Value} {im : IM} {rm : RM}  : ev 68 1 [v0, v1, v2, v3, v4, v5, v6] st im rm = ev 68 4 [v0, v1, v2, v3, v4, v5, v6] (.int (nI 99999) :: st) (im) (rm) := ev_ldcw pm_m68 d68_1 (by decide +kernel) rfl
theorem d68_4 : decode prog_1_method_29_code 4 = .ok (.invokestatic 117, 3) := by decide +kernel
theorem s68_4 {v0 v1 v2 v3 v4 v5 v6 : Value} {p1 : Int32} {p2 : Int32} {im : IM} {rm : RM}  : ev 68 4 [v0, v1, v2, v3, v4, v5, v6] [.int p2, .int p1] im rm = (ev 76 0 [.int p1, .int p2] [] im rm).bind (fun r => ev 68 7 [v0, v1, v2, v3, v4, v5, v6] (r.1.toList ++ []) r.2.1 r.2.2) := ev_callS pm_m68 d68_4 (by decide) l7_117 rfl pm_m76 rfl ⟨rfl, rfl⟩ rfl rfl
theorem d68_7 : decode prog_1_method_29_code 7 = .ok (.ifCond .eq 11, 3) := by decide +kernel
theorem s68_7 {v0 v1 v2 v3 v4 v5 v6 : Value} {x : Int32} {st : List Value} {im : IM} {rm : RM} : ev 68 7 [v0, v1, v2, v3, v4, v5, v6] (.int x :: st) im rm = if x = nI 0 then ev 68 18 [pm_u, pm_u, pm_u, pm_u, pm_u, pm_u, pm_u] st im rm else ev 68 10 [v0, v1, v2, v3, v4, v5, v6] st im rm := ev_if_eq (y := 0) pm_m68 d68_7 rfl rfl rfl
theorem d68_10 : decode prog_1_method_29_code 10 = .ok (.iload_n 2, 1) := by decide +kernel
theorem s68_10 {v0 v1 v3 v4 v5 v6 : Value} {l1 : Int32} {st : List Value} {im : IM} {rm : RM}  : ev 68 10 [v0, v1, .int l1, v3, v4, v5, v6] st im rm = ev 68 11 [v0, v1, .int l1, v3, v4, v5, v6] (.int l1 :: st) (im) (rm) := ev_iload_n pm_m68 d68_10 rfl rfl
theorem d68_11 : decode prog_1_method_29_code 11 = .ok (.iconst 3, 1) := by decide +kernel
theorem s68_11 {v0 v1 v2 v3 v4 v5 v6 : Value}  {st : List Value} {im : IM} {rm : RM}  : ev 68 11 [v0, v1, v2, v3, v4, v5, v6] st im rm = ev 68 12 [v0, v1, v2, v3, v4, v5, v6] (.int (nI 3) :: st) (im) (rm) := ev_iconst pm_m68 d68_11 rfl rfl
theorem d68_12 : decode prog_1_method_29_code 12 = .ok (.invokestatic 109, 3) := by decide +kernel
theorem s68_12 {v0 v1 v2 v3 v4 v5 v6 : Value} {p1 : Int32} {p2 : Int32} {im : IM} {rm : RM}  : ev 68 12 [v0, v1, v2, v3, v4, v5, v6] [.int p2, .int p1] im rm = (ev 75 0 [.int p1, .int p2] [] im rm).bind (fun r => ev 68 15 [v0, v1, v2, v3, v4, v5, v6] (r.1.toList ++ []) r.2.1 r.2.2) := ev_callS pm_m68 d68_12 (by decide) l7_109 rfl pm_m75 rfl ⟨rfl, rfl⟩ rfl rfl
theorem d68_15 : decode prog_1_method_29_code 15 = .ok (.ifCond .ne 6, 3) := by decide +kernel
theorem s68_15 {v0 v1 v2 v3 v4 v5 v6 : Value} {x : Int32} {st : List Value} {im : IM} {rm : RM} : ev 68 15 [v0, v1, v2, v3, v4, v5, v6] (.int x :: st) im rm = if x = nI 0 then ev 68 18 [pm_u, pm_u, pm_u, pm_u, pm_u, pm_u, pm_u] st im rm else ev 68 21 [v0, v1, v2, pm_u, pm_u, pm_u, pm_u] st im rm := ev_if_ne (y := 0) pm_m68 d68_15 rfl rfl rfl
theorem d68_18 : decode prog_1_method_29_code 18 = .ok (.bipush (-3), 2) := by decide +kernel
theorem s68_18 {v0 v1 v2 v3 v4 v5 v6 : Value}  {st : List Value} {im : IM} {rm : RM}  : ev 68 18 [v0, v1, v2, v3, v4, v5, v6] st im rm = ev 68 20 [v0, v1, v2, v3, v4, v5, v6] (.int ((-3 : Int32)) :: st) (im) (rm) := ev_bipush pm_m68 d68_18 rfl rfl
theorem d68_20 : decode prog_1_method_29_code 20 = .ok (.ireturn, 1) := by decide +kernel
theorem s68_20 {v0 v1 v2 v3 v4 v5 v6 : Value} {x : Int32} {im : IM} {rm : RM} : ev 68 20 [v0, v1, v2, v3, v4, v5, v6] [.int x] im rm = some (some (.int x), im, rm) := ev_ireturn pm_m68 d68_20 rfl
theorem d68_21 : decode prog_1_method_29_code 21 = .ok (.aload_n 0, 1) := by decide +kernel
theorem s68_21 {v1 v2 v3 v4 v5 v6 : Value} {l1 : Nat} {st : List Value} {im : IM} {rm : RM}  : ev 68 21 [.ref l1, v1, v2, v3, v4, v5, v6] st im rm = ev 68 22 [.ref l1, v1, v2, v3, v4, v5, v6] (.ref l1 :: st) (im) (rm) := ev_aload_n pm_m68 d68_21 rfl rfl
theorem d68_22 : decode prog_1_method_29_code 22 = .ok (.invokevirtual 233, 3) := by decide +kernel
theorem s68_22 {v0 v1 v2 v3 v4 v5 v6 : Value} {a : Nat} {im : IM} {rm : RM} (hk : kd a = 17) : ev 68 22 [v0, v1, v2, v3, v4, v5, v6] [.ref a] im rm = (ev 82 0 [.ref a, pm_u] [] im rm).bind (fun r => ev 68 25 [v0, v1, v2, v3, v4, v5, v6] (r.1.toList ++ []) r.2.1 r.2.2) := ev_callV pm_m68 d68_22 l7_233 rfl pm_m82 (by decide) hk rfl ⟨rfl, rfl⟩ rfl rfl
theorem d68_25 : decode prog_1_method_29_code 25 = .ok (.aload_n 0, 1) := by decide +kernel
theorem s68_25 {v1 v2 v3 v4 v5 v6 : Value} {l1 : Nat} {st : List Value} {im : IM} {rm : RM}  : ev 68 25 [.ref l1, v1, v2, v3, v4, v5, v6] st im rm = ev 68 26 [.ref l1, v1, v2, v3, v4, v5, v6] (.ref l1 :: st) (im) (rm) := ev_aload_n pm_m68 d68_25 rfl rfl
theorem d68_26 : decode prog_1_method_29_code 26 = .ok (.iload_n 1, 1) := by decide +kernel
theorem s68_26 {v0 v2 v3 v4 v5 v6 : Value} {l1 : Int32} {st : List Value} {im : IM} {rm : RM}  : ev 68 26 [v0, .int l1, v2, v3, v4, v5, v6] st im rm = ev 68 27 [v0, .int l1, v2, v3, v4, v5, v6] (.int l1 :: st) (im) (rm) := ev_iload_n pm_m68 d68_26 rfl rfl
theorem d68_27 : decode prog_1_method_29_code 27 = .ok (.invokevirtual 282, 3) := by decide +kernel
theorem s68_27 {v0 v1 v2 v3 v4 v5 v6 : Value} {a : Nat} {p1 : Int32} {im : IM} {rm : RM} (hk : kd a = 17) : ev 68 27 [v0, v1, v2, v3, v4, v5, v6] [.int p1, .ref a] im rm = (ev 98 0 [.ref a, .int p1, pm_u, pm_u] [] im rm).bind (fun r => ev 68 30 [v0, v1, v2, v3, v4, v5, v6] (r.1.toList ++ []) r.2.1 r.2.2) := ev_callV pm_m68 d68_27 l7_282 rfl pm_m98 (by decide) hk rfl ⟨rfl, rfl⟩ rfl rfl
theorem d68_30 : decode prog_1_method_29_code 30 = .ok (.bipush 63, 2) := by decide +kernel
theorem s68_30 {v0 v1 v2 v3 v4 v5 v6 : Value}  {st : List Value} {im : IM} {rm : RM}  : ev 68 30 [v0, v1, v2, v3, v4, v5, v6] st im rm = ev 68 32 [v0, v1, v2, v3, v4, v5, v6] (.int (nI 63) :: st) (im) (rm) := ev_bipush pm_m68 d68_30 rfl rfl
theorem d68_32 : decode prog_1_method_29_code 32 = .ok (.istore_n 3, 1) := by decide +kernel
theorem s68_32 {v0 v1 v3 v4 v5 v6 : Value} {l1 : Int32} {x2 : Int32} {st : List Value} {im : IM} {rm : RM}  : ev 68 32 [v0, v1, .int l1, v3, v4, v5, v6] (.int x2 :: st) im rm = ev 68 33 [v0, v1, .int l1, .int x2, v4, v5, v6] st (im) (rm) := ev_istore_n pm_m68 d68_32 (Nat.le_of_ble_eq_true rfl) rfl rfl
theorem d68_33 : decode prog_1_method_29_code 33 = .ok (.aload_n 0, 1) := by decide +kernel
theorem s68_33 {v1 v2 v3 v4 v5 v6 : Value} {l1 : Nat} {st : List Value} {im : IM} {rm : RM}  : ev 68 33 [.ref l1, v1, v2, v3, v4, v5, v6] st im rm = ev 68 34 [.ref l1, v1, v2, v3, v4, v5, v6] (.ref l1 :: st) (im) (rm) := ev_aload_n pm_m68 d68_33 rfl rfl
theorem d68_34 : decode prog_1_method_29_code 34 = .ok (.iload_n 3, 1) := by decide +kernel
theorem s68_34 {v0 v1 v2 v4 v5 v6 : Value} {l1 : Int32} {st : List Value} {im : IM} {rm : RM}  : ev 68 34 [v0, v1, v2, .int l1, v4, v5, v6] st im rm = ev 68 35 [v0, v1, v2, .int l1, v4, v5, v6] (.int l1 :: st) (im) (rm) := ev_iload_n pm_m68 d68_34 rfl rfl
theorem d68_35 : decode prog_1_method_29_code 35 = .ok (.invokevirtual 285, 3) := by decide +kernel
theorem s68_35 {v0 v1 v2 v3 v4 v5 v6 : Value} {a : Nat} {p1 : Int32} {im : IM} {rm : RM} (hk : kd a = 17) : ev 68 35 [v0, v1, v2, v3, v4, v5, v6] [.int p1, .ref a] im rm = (ev 99 0 [.ref a, .int p1, pm_u, pm_u] [] im rm).bind (fun r => ev 68 38 [v0, v1, v2, v3, v4, v5, v6] (r.1.toList ++ []) r.2.1 r.2.2) := ev_callV pm_m68 d68_35 l7_285 rfl pm_m99 (by decide) hk rfl ⟨rfl, rfl⟩ rfl rfl
theorem d68_38 : decode prog_1_method_29_code 38 = .ok (.istore 4, 2) := by decide +kernel
theorem s68_38 {v0 v1 v2 v4 v5 v6 : Value} {l1 : Int32} {x2 : Int32} {st : List Value} {im : IM} {rm : RM}  : ev 68 38 [v0, v1, v2, .int l1, v4, v5, v6] (.int x2 :: st) im rm = ev 68 40 [v0, v1, v2, .int l1, .int x2, v5, v6] st (im) (rm) := ev_istore pm_m68 d68_38 (Nat.le_of_ble_eq_true rfl) rfl rfl
theorem d68_40 : decode prog_1_method_29_code 40 = .ok (.iload_n 2, 1) := by decide +kernel
theorem s68_40 {v0 v1 v3 v4 v5 v6 : Value} {l1 : Int32} {st : List Value} {im : IM} {rm : RM}  : ev 68 40 [v0, v1, .int l1, v3, v4, v5, v6] st im rm = ev 68 41 [v0, v1, .int l1, v3, v4, v5, v6] (.int l1 :: st) (im) (rm) := ev_iload_n pm_m68 d68_40 rfl rfl
theorem d68_41 : decode prog_1_method_29_code 41 = .ok (.iconst 2, 1) := by decide +kernel
theorem s68_41 {v0 v1 v2 v3 v4 v5 v6 : Value}  {st : List Value} {im : IM} {rm : RM}  : ev 68 41 [v0, v1, v2, v3, v4, v5, v6] st im rm = ev 68 42 [v0, v1, v2, v3, v4, v5, v6] (.int (nI 2) :: st) (im) (rm) := ev_iconst pm_m68 d68_41 rfl rfl
theorem d68_42 : decode prog_1_method_29_code 42 = .ok (.if_icmp .ne 6, 3) := by decide +kernel
theorem s68_42 {v0 v1 v2 v3 v4 v5 v6 : Value} {x : Int32} {y : Int32} {st : List Value} {im : IM} {rm : RM} : ev 68 42 [v0, v1, v2, v3, v4, v5, v6] (.int y :: .int x :: st) im rm = if x = y then ev 68 45 [v0, v1, v2, v3, v4, v5, v6] st im rm else ev 68 48 [v0, pm_u, v2, v3, v4, pm_u, pm_u] st im rm := ev_icmp_ne pm_m68 d68_42 rfl rfl rfl
theorem d68_45 : decode prog_1_method_29_code 45 = .ok (.iload 4, 2) := by decide +kernel
theorem s68_45 {v0 v1 v2 v3 v5 v6 : Value} {l1 : Int32} {st : List Value} {im : IM} {rm : RM}  : ev 68 45 [v0, v1, v2, v3, .int l1, v5, v6] st im rm = ev 68 47 [v0, v1, v2, v3, .int l1, v5, v6] (.int l1 :: st) (im) (rm) := ev_iload pm_m68 d68_45 rfl rfl
theorem d68_47 : decode prog_1_method_29_code 47 = .ok (.ireturn, 1) := by decide +kernel
theorem s68_47 {v0 v1 v2 v3 v4 v5 v6 : Value} {x : Int32} {im : IM} {rm : RM} : ev 68 47 [v0, v1, v2, v3, v4, v5, v6] [.int x] im rm = some (some (.int x), im, rm) := ev_ireturn pm_m68 d68_47 rfl
theorem d68_48 : decode prog_1_method_29_code 48 = .ok (.iload_n 3, 1) := by decide +kernel
theorem s68_48 {v0 v1 v2 v4 v5 v6 : Value} {l1 : Int32} {st : List Value} {im : IM} {rm : RM}  : ev 68 48 [v0, v1, v2, .int l1, v4, v5, v6] st im rm = ev 68 49 [v0, v1, v2, .int l1, v4, v5, v6] (.int l1 :: st) (im) (rm) := ev_iload_n pm_m68 d68_48 rfl rfl
theorem d68_49 : decode prog_1_method_29_code 49 = .ok (.istore 5, 2) := by decide +kernel
theorem s68_49 {v0 v1 v2 v3 v5 v6 : Value} {l1 : Int32} {x2 : Int32} {st : List Value} {im : IM} {rm : RM}  : ev 68 49 [v0, v1, v2, v3, .int l1, v5, v6] (.int x2 :: st) im rm = ev 68 51 [v0, v1, v2, v3, .int l1, .int x2, v6] st (im) (rm) := ev_istore pm_m68 d68_49 (Nat.le_of_ble_eq_true rfl) rfl rfl
theorem d68_51 : decode prog_1_method_29_code 51 = .ok (.iload_n 3, 1) := by decide +kernel
theorem s68_51 {v0 v1 v2 v4 v5 v6 : Value} {l1 : Int32} {st : List Value} {im : IM} {rm : RM}  : ev 68 51 [v0, v1, v2, .int l1, v4, v5, v6] st im rm = ev 68 52 [v0, v1, v2, .int l1, v4, v5, v6] (.int l1 :: st) (im) (rm) := ev_iload_n pm_m68 d68_51 rfl rfl
theorem d68_52 : decode prog_1_method_29_code 52 = .ok (.istore 6, 2) := by decide +kernel
theorem s68_52 {v0 v1 v2 v3 v4 v6 : Value} {l1 : Int32} {x2 : Int32} {st : List Value} {im : IM} {rm : RM}  : ev 68 52 [v0, v1, v2, v3, v4, .int l1, v6] (.int x2 :: st) im rm = ev 68 54 [v0, pm_u, v2, pm_u, v4, .int l1, .int x2] st (im) (rm) := ev_istore pm_m68 d68_52 (Nat.le_of_ble_eq_true rfl) rfl rfl
theorem d68_54 : decode prog_1_method_29_code 54 = .ok (.iload 6, 2) := by decide +kernel
theorem s68_54 {v0 v1 v2 v3 v4 v5 : Value} {l1 : Int32} {st : List Value} {im : IM} {rm : RM}  : ev 68 54 [v0, v1, v2, v3, v4, v5, .int l1] st im rm = ev 68 56 [v0, v1, v2, v3, v4, v5, .int l1] (.int l1 :: st) (im) (rm) := ev_iload pm_m68 d68_54 rfl rfl
theorem d68_56 : decode prog_1_method_29_code 56 = .ok (.ifCond .lt 39, 3) := by decide +kernel
theorem s68_56 {v0 v1 v2 v3 v4 v5 v6 : Value} {x : Int32} {st : List Value} {im : IM} {rm : RM} : ev 68 56 [v0, v1, v2, v3, v4, v5, v6] (.int x :: st) im rm = if x < nI 0 then ev 68 95 [v0, pm_u, v2, pm_u, pm_u, v5, pm_u] st im rm else ev 68 59 [v0, v1, v2, v3, v4, v5, v6] st im rm := ev_if_lt (y := 0) pm_m68 d68_56 rfl rfl rfl
theorem d68_59 : decode prog_1_method_29_code 59 = .ok (.aload_n 0, 1) := by decide +kernel
theorem s68_59 {v1 v2 v3 v4 v5 v6 : Value} {l1 : Nat} {st : List Value} {im : IM} {rm : RM}  : ev 68 59 [.ref l1, v1, v2, v3, v4, v5, v6] st im rm = ev 68 60 [.ref l1, v1, v2, v3, v4, v5, v6] (.ref l1 :: st) (im) (rm) := ev_aload_n pm_m68 d68_59 rfl rfl
theorem d68_60 : decode prog_1_method_29_code 60 = .ok (.iload 6, 2) := by decide +kernel
theorem s68_60 {v0 v1 v2 v3 v4 v5 : Value} {l1 : Int32} {st : List Value} {im : IM} {rm : RM}  : ev 68 60 [v0, v1, v2, v3, v4, v5, .int l1] st im rm = ev 68 62 [v0, v1, v2, v3, v4, v5, .int l1] (.int l1 :: st) (im) (rm) := ev_iload pm_m68 d68_60 rfl rfl
theorem d68_62 : decode prog_1_method_29_code 62 = .ok (.invokevirtual 285, 3) := by decide +kernel
theorem s68_62 {v0 v1 v2 v3 v4 v5 v6 : Value} {a : Nat} {p1 : Int32} {im : IM} {rm : RM} (hk : kd a = 17) : ev 68 62 [v0, v1, v2, v3, v4, v5, v6] [.int p1, .ref a] im rm = (ev 99 0 [.ref a, .int p1, pm_u, pm_u] [] im rm).bind (fun r => ev 68 65 [v0, v1, v2, v3, v4, v5, v6] (r.1.toList ++ []) r.2.1 r.2.2) := ev_callV pm_m68 d68_62 l7_285 rfl pm_m99 (by decide) hk rfl ⟨rfl, rfl⟩ rfl rfl
theorem d68_65 : decode prog_1_method_29_code 65 = .ok (.iload 4, 2) := by decide +kernel
theorem s68_65 {v0 v1 v2 v3 v5 v6 : Value} {l1 : Int32} {st : List Value} {im : IM} {rm : RM}  : ev 68 65 [v0, v1, v2, v3, .int l1, v5, v6] st im rm = ev 68 67 [v0, v1, v2, v3, .int l1, v5, v6] (.int l1 :: st) (im) (rm) := ev_iload pm_m68 d68_65 rfl rfl
theorem d68_67 : decode prog_1_method_29_code 67 = .ok (.if_icmp .ne 22, 3) := by decide +kernel
theorem s68_67 {v0 v1 v2 v3 v4 v5 v6 : Value} {x : Int32} {y : Int32} {st : List Value} {im : IM} {rm : RM} : ev 68 67 [v0, v1, v2, v3, v4, v5, v6] (.int y :: .int x :: st) im rm = if x = y then ev 68 70 [v0, v1, v2, v3, v4, v5, v6] st im rm else ev 68 89 [v0, pm_u, v2, pm_u, v4, v5, v6] st im rm := ev_icmp_ne pm_m68 d68_67 rfl rfl rfl
theorem d68_70 : decode prog_1_method_29_code 70 = .ok (.aload_n 0, 1) := by decide +kernel
theorem s68_70 {v1 v2 v3 v4 v5 v6 : Value} {l1 : Nat} {st : List Value} {im : IM} {rm : RM}  : ev 68 70 [.ref l1, v1, v2, v3, v4, v5, v6] st im rm = ev 68 71 [.ref l1, v1, v2, v3, v4, v5, v6] (.ref l1 :: st) (im) (rm) := ev_aload_n pm_m68 d68_70 rfl rfl
theorem d68_71 : decode prog_1_method_29_code 71 = .ok (.iload 6, 2) := by decide +kernel
theorem s68_71 {v0 v1 v2 v3 v4 v5 : Value} {l1 : Int32} {st : List Value} {im : IM} {rm : RM}  : ev 68 71 [v0, v1, v2, v3, v4, v5, .int l1] st im rm = ev 68 73 [v0, v1, v2, v3, v4, v5, .int l1] (.int l1 :: st) (im) (rm) := ev_iload pm_m68 d68_71 rfl rfl
theorem d68_73 : decode prog_1_method_29_code 73 = .ok (.invokevirtual 288, 3) := by decide +kernel
theorem s68_73 {v0 v1 v2 v3 v4 v5 v6 : Value} {a : Nat} {p1 : Int32} {im : IM} {rm : RM} (hk : kd a = 17) : ev 68 73 [v0, v1, v2, v3, v4, v5, v6] [.int p1, .ref a] im rm = (ev 100 0 [.ref a, .int p1, pm_u, pm_u] [] im rm).bind (fun r => ev 68 76 [v0, v1, v2, v3, v4, v5, v6] (r.1.toList ++ []) r.2.1 r.2.2) := ev_callV pm_m68 d68_73 l7_288 rfl pm_m100 (by decide) hk rfl ⟨rfl, rfl⟩ rfl rfl
theorem d68_76 : decode prog_1_method_29_code 76 = .ok (.aload_n 0, 1) := by decide +kernel
theorem s68_76 {v1 v2 v3 v4 v5 v6 : Value} {l1 : Nat} {st : List Value} {im : IM} {rm : RM}  : ev 68 76 [.ref l1, v1, v2, v3, v4, v5, v6] st im rm = ev 68 77 [.ref l1, v1, v2, v3, v4, v5, v6] (.ref l1 :: st) (im) (rm) := ev_aload_n pm_m68 d68_76 rfl rfl
theorem d68_77 : decode prog_1_method_29_code 77 = .ok (.iload 5, 2) := by decide +kernel
theorem s68_77 {v0 v1 v2 v3 v4 v6 : Value} {l1 : Int32} {st : List Value} {im : IM} {rm : RM}  : ev 68 77 [v0, v1, v2, v3, v4, .int l1, v6] st im rm = ev 68 79 [v0, v1, v2, v3, v4, .int l1, v6] (.int l1 :: st) (im) (rm) := ev_iload pm_m68 d68_77 rfl rfl
theorem d68_79 : decode prog_1_method_29_code 79 = .ok (.invokevirtual 288, 3) := by decide +kernel
theorem s68_79 {v0 v1 v2 v3 v4 v5 v6 : Value} {a : Nat} {p1 : Int32} {r2 : Int32} {im : IM} {rm : RM} (hk : kd a = 17) : ev 68 79 [v0, v1, v2, v3, v4, v5, v6] [.int p1, .ref a, .int r2] im rm = (ev 100 0 [.ref a, .int p1, pm_u, pm_u] [] im rm).bind (fun r => ev 68 82 [v0, v1, v2, v3, v4, v5, v6] (r.1.toList ++ [.int r2]) r.2.1 r.2.2) := ev_callV pm_m68 d68_79 l7_288 rfl pm_m100 (by decide) hk rfl ⟨rfl, rfl⟩ rfl rfl
theorem d68_82 : decode prog_1_method_29_code 82 = .ok (.if_icmp .gt 7, 3) := by decide +kernel
theorem s68_82 {v0 v1 v2 v3 v4 v5 v6 : Value} {x : Int32} {y : Int32} {st : List Value} {im : IM} {rm : RM} : ev 68 82 [v0, v1, v2, v3, v4, v5, v6] (.int y :: .int x :: st) im rm = if y < x then ev 68 89 [v0, pm_u, v2, pm_u, v4, v5, v6] st im rm else ev 68 85 [v0, v1, v2, v3, v4, v5, v6] st im rm := ev_icmp_gt pm_m68 d68_82 rfl rfl rfl
theorem d68_85 : decode prog_1_method_29_code 85 = .ok (.iload 6, 2) := by decide +kernel
theorem s68_85 {v0 v1 v2 v3 v4 v5 : Value} {l1 : Int32} {st : List Value} {im : IM} {rm : RM}  : ev 68 85 [v0, v1, v2, v3, v4, v5, .int l1] st im rm = ev 68 87 [v0, v1, v2, v3, v4, v5, .int l1] (.int l1 :: st) (im) (rm) := ev_iload pm_m68 d68_85 rfl rfl
theorem d68_87 : decode prog_1_method_29_code 87 = .ok (.istore 5, 2) := by decide +kernel
theorem s68_87 {v0 v1 v2 v3 v5 v6 : Value} {l1 : Int32} {x2 : Int32} {st : List Value} {im : IM} {rm : RM}  : ev 68 87 [v0, v1, v2, v3, .int l1, v5, v6] (.int x2 :: st) im rm = ev 68 89 [v0, pm_u, v2, pm_u, .int l1, .int x2, v6] st (im) (rm) := ev_istore pm_m68 d68_87 (Nat.le_of_ble_eq_true rfl) rfl rfl
theorem d68_89 : decode prog_1_method_29_code 89 = .ok (.iinc 6 (-1), 3) := by decide +kernel
theorem s68_89 {v0 v1 v2 v3 v4 : Value} {l1 : Int32} {l2 : Int32} {st : List Value} {im : IM} {rm : RM}  : ev 68 89 [v0, v1, v2, v3, v4, .int l1, .int l2] st im rm = ev 68 92 [v0, v1, v2, v3, v4, .int l1, .int (l2 + (-1 : Int32))] st (im) (rm) := ev_iinc pm_m68 d68_89 rfl rfl rfl rfl
theorem d68_92 : decode prog_1_method_29_code 92 = .ok (.goto (-38), 3) := by decide +kernel
theorem s68_92 {v0 v1 v2 v3 v4 v5 v6 : Value}  {st : List Value} {im : IM} {rm : RM}  : ev 68 92 [v0, v1, v2, v3, v4, v5, v6] st im rm = ev 68 54 [v0, pm_u, v2, pm_u, v4, v5, v6] st (im) (rm) := ev_goto pm_m68 d68_92 rfl rfl
theorem d68_95 : decode prog_1_method_29_code 95 = .ok (.iload_n 2, 1) := by decide +kernel
theorem s68_95 {v0 v1 v3 v4 v5 v6 : Value} {l1 : Int32} {st : List Value} {im : IM} {rm : RM}  : ev 68 95 [v0, v1, .int l1, v3, v4, v5, v6] st im rm = ev 68 96 [v0, v1, .int l1, v3, v4, v5, v6] (.int l1 :: st) (im) (rm) := ev_iload_n pm_m68 d68_95 rfl rfl
theorem d68_96 : decode prog_1_method_29_code 96 = .ok (.ifCond .ne 8, 3) := by decide +kernel
theorem s68_96 {v0 v1 v2 v3 v4 v5 v6 : Value} {x : Int32} {st : List Value} {im : IM} {rm : RM} : ev 68 96 [v0, v1, v2, v3, v4, v5, v6] (.int x :: st) im rm = if x = nI 0 then ev 68 99 [v0, v1, v2, v3, v4, v5, v6] st im rm else ev 68 104 [v0, pm_u, pm_u, pm_u, pm_u, v5, pm_u] st im rm := ev_if_ne (y := 0) pm_m68 d68_96 rfl rfl rfl
theorem d68_99 : decode prog_1_method_29_code 99 = .ok (.iload 5, 2) := by decide +kernel
theorem s68_99 {v0 v1 v2 v3 v4 v6 : Value} {l1 : Int32} {st : List Value} {im : IM} {rm : RM}  : ev 68 99 [v0, v1, v2, v3, v4, .int l1, v6] st im rm = ev 68 101 [v0, v1, v2, v3, v4, .int l1, v6] (.int l1 :: st) (im) (rm) := ev_iload pm_m68 d68_99 rfl rfl
theorem d68_101 : decode prog_1_method_29_code 101 = .ok (.goto 9, 3) := by decide +kernel
theorem s68_101 {v0 v1 v2 v3 v4 v5 v6 : Value}  {st : List Value} {im : IM} {rm : RM}  : ev 68 101 [v0, v1, v2, v3, v4, v5, v6] st im rm = ev 68 110 [pm_u, pm_u, pm_u, pm_u, pm_u, pm_u, pm_u] st (im) (rm) := ev_goto pm_m68 d68_101 rfl rfl
theorem d68_104 : decode prog_1_method_29_code 104 = .ok (.aload_n 0, 1) := by decide +kernel
theorem s68_104 {v1 v2 v3 v4 v5 v6 : Value} {l1 : Nat} {st : List Value} {im : IM} {rm : RM}  : ev 68 104 [.ref l1, v1, v2, v3, v4, v5, v6] st im rm = ev 68 105 [.ref l1, v1, v2, v3, v4, v5, v6] (.ref l1 :: st) (im) (rm) := ev_aload_n pm_m68 d68_104 rfl rfl
theorem d68_105 : decode prog_1_method_29_code 105 = .ok (.iload 5, 2) := by decide +kernel
theorem s68_105 {v0 v1 v2 v3 v4 v6 : Value} {l1 : Int32} {st : List Value} {im : IM} {rm : RM}  : ev 68 105 [v0, v1, v2, v3, v4, .int l1, v6] st im rm = ev 68 107 [v0, v1, v2, v3, v4, .int l1, v6] (.int l1 :: st) (im) (rm) := ev_iload pm_m68 d68_105 rfl rfl
theorem d68_107 : decode prog_1_method_29_code 107 = .ok (.invokevirtual 288, 3) := by decide +kernel
theorem s68_107 {v0 v1 v2 v3 v4 v5 v6 : Value} {a : Nat} {p1 : Int32} {im : IM} {rm : RM} (hk : kd a = 17) : ev 68 107 [v0, v1, v2, v3, v4, v5, v6] [.int p1, .ref a] im rm = (ev 100 0 [.ref a, .int p1, pm_u, pm_u] [] im rm).bind (fun r => ev 68 110 [pm_u, pm_u, pm_u, pm_u, pm_u, pm_u, pm_u] (r.1.toList ++ []) r.2.1 r.2.2) := ev_callV pm_m68 d68_107 l7_288 rfl pm_m100 (by decide) hk rfl ⟨rfl, rfl⟩ rfl rfl
theorem d68_110 : decode prog_1_method_29_code 110 = .ok (.ireturn, 1) := by decide +kernel
theorem s68_110 {v0 v1 v2 v3 v4 v5 v6 : Value} {x : Int32} {im : IM} {rm : RM} : ev 68 110 [v0, v1, v2, v3, v4, v5, v6] [.int x] im rm = some (some (.int x), im, rm) := ev_ireturn pm_m68 d68_110 rfl
theorem d69_0 : decode prog_1_method_30_code 0 = .ok (.iload_n 1, 1) := by decide +kernel
theorem s69_0 {v0 : Value} {l1 : Int32} {st : List Value} {im : IM} {rm : RM}  : ev 69 0 [v0, .int l1] st im rm = ev 69 1 [v0, .int l1] (.int l1 :: st) (im) (rm) := ev_iload_n pm_m69 d69_0 rfl rfl
theorem d69_1 : decode prog_1_method_30_code 1 = .ok (.iconst 1, 1) := by decide +kernel
theorem s69_1 {v0 v1 : Value}  {st : List Value} {im : IM} {rm : RM}  : ev 69 1 [v0, v1] st im rm = ev 69 2 [v0, v1] (.int (nI 1) :: st) (im) (rm) := ev_iconst pm_m69 d69_1 rfl rfl
theorem d69_2 : decode prog_1_method_30_code 2 = .ok (.if_icmp .lt 21, 3) := by decide +kernel
theorem s69_2 {v0 v1 : Value} {x : Int32} {y : Int32} {st : List Value} {im : IM} {rm : RM} : ev 69 2 [v0, v1] (.int y :: .int x :: st) im rm = if x < y then ev 69 23 [pm_u, pm_u] st im rm else ev 69 5 [v0, v1] st im rm := ev_icmp_lt pm_m69 d69_2 rfl rfl rfl
theorem d69_5 : decode prog_1_method_30_code 5 = .ok (.iload_n 1, 1) := by decide +kernel
theorem s69_5 {v0 : Value} {l1 : Int32} {st : List Value} {im : IM} {rm : RM}  : ev 69 5 [v0, .int l1] st im rm = ev 69 6 [v0, .int l1] (.int l1 :: st) (im) (rm) := ev_iload_n pm_m69 d69_5 rfl rfl
theorem d69_6 : decode prog_1_method_30_code 6 = .ok (.bipush 60, 2) := by decide +kernel
theorem s69_6 {v0 v1 : Value}  {st : List Value} {im : IM} {rm : RM}  : ev 69 6 [v0, v1] st im rm = ev 69 8 [v0, v1] (.int (nI 60) :: st) (im) (rm) := ev_bipush pm_m69 d69_6 rfl rfl
theorem d69_8 : decode prog_1_method_30_code 8 = .ok (.if_icmp .gt 15, 3) := by decide +kernel
theorem s69_8 {v0 v1 : Value} {x : Int32} {y : Int32} {st : List Value} {im : IM} {rm : RM} : ev 69 8 [v0, v1] (.int y :: .int x :: st) im rm = if y < x then ev 69 23 [pm_u, pm_u] st im rm else ev 69 11 [v0, v1] st im rm := ev_icmp_gt pm_m69 d69_8 rfl rfl rfl
theorem d69_11 : decode prog_1_method_30_code 11 = .ok (.aload_n 0, 1) := by decide +kernel
theorem s69_11 {v1 : Value} {l1 : Nat} {st : List Value} {im : IM} {rm : RM}  : ev 69 11 [.ref l1, v1] st im rm = ev 69 12 [.ref l1, v1] (.ref l1 :: st) (im) (rm) := ev_aload_n pm_m69 d69_11 rfl rfl
theorem d69_12 : decode prog_1_method_30_code 12 = .ok (.getfield 66, 3) := by decide +kernel
theorem s69_12 {v0 v1 : Value} {a : Nat} {st : List Value} {im : IM} {rm : RM} (hk : kd a = 17) : ev 69 12 [v0, v1] (.ref a :: st) im rm = ev 69 15 [v0, v1] (.int (im a 10) :: st) (im) (rm) := ev_getI pm_m69 d69_12 f7_66 rfl hk rfl
theorem d69_15 : decode prog_1_method_30_code 15 = .ok (.iload_n 1, 1) := by decide +kernel
theorem s69_15 {v0 : Value} {l1 : Int32} {st : List Value} {im : IM} {rm : RM}  : ev 69 15 [v0, .int l1] st im rm = ev 69 16 [v0, .int l1] (.int l1 :: st) (im) (rm) := ev_iload_n pm_m69 d69_15 rfl rfl
theorem d69_16 : decode prog_1_method_30_code 16 = .ok (.iadd, 1) := by decide +kernel
theorem s69_16 {v0 v1 : Value} {x : Int32} {y : Int32} {st : List Value} {im : IM} {rm : RM}  : ev 69 16 [v0, v1] (.int y :: .int x :: st) im rm = ev 69 17 [v0, v1] (.int (x + y) :: st) (im) (rm) := ev_iadd pm_m69 d69_16 rfl
theorem d69_17 : decode prog_1_method_30_code 17 = .ok (.sipush 200, 3) := by decide +kernel
theorem s69_17 {v0 v1 : Value}  {st : List Value} {im : IM} {rm : RM}  : ev 69 17 [v0, v1] st im rm = ev 69 20 [v0, v1] (.int (nI 200) :: st) (im) (rm) := ev_sipush pm_m69 d69_17 rfl rfl
theorem d69_20 : decode prog_1_method_30_code 20 = .ok (.if_icmp .le 6, 3) := by decide +kernel
theorem s69_20 {v0 v1 : Value} {x : Int32} {y : Int32} {st : List Value} {im : IM} {rm : RM} : ev 69 20 [v0, v1] (.int y :: .int x :: st) im rm = if x ≤ y then ev 69 26 [v0, v1] st im rm else ev 69 23 [pm_u, pm_u] st im rm := ev_icmp_le pm_m69 d69_20 rfl rfl rfl
theorem d69_23 : decode prog_1_method_30_code 23 = .ok (.bipush (-3), 2) := by decide +kernel
theorem s69_23 {v0 v1 : Value}  {st : List Value} {im : IM} {rm : RM}  : ev 69 23 [v0, v1] st im rm = ev 69 25 [v0, v1] (.int ((-3 : Int32)) :: st) (im) (rm) := ev_bipush pm_m69 d69_23 rfl rfl
theorem d69_25 : decode prog_1_method_30_code 25 = .ok (.ireturn, 1) := by decide +kernel
theorem s69_25 {v0 v1 : Value} {x : Int32} {im : IM} {rm : RM} : ev 69 25 [v0, v1] [.int x] im rm = some (some (.int x), im, rm) := ev_ireturn pm_m69 d69_25 rfl
theorem d69_26 : decode prog_1_method_30_code 26 = .ok (.aload_n 0, 1) := by decide +kernel
theorem s69_26 {v1 : Value} {l1 : Nat} {st : List Value} {im : IM} {rm : RM}  : ev 69 26 [.ref l1, v1] st im rm = ev 69 27 [.ref l1, v1] (.ref l1 :: st) (im) (rm) := ev_aload_n pm_m69 d69_26 rfl rfl
theorem d69_27 : decode prog_1_method_30_code 27 = .ok (.dup, 1) := by decide +kernel
theorem s69_27 {v0 v1 : Value} {x1 : Nat} {st : List Value} {im : IM} {rm : RM}  : ev 69 27 [v0, v1] (.ref x1 :: st) im rm = ev 69 28 [v0, v1] (.ref x1 :: .ref x1 :: st) (im) (rm) := ev_dupA pm_m69 d69_27 rfl
theorem d69_28 : decode prog_1_method_30_code 28 = .ok (.getfield 66, 3) := by decide +kernel
theorem s69_28 {v0 v1 : Value} {a : Nat} {st : List Value} {im : IM} {rm : RM} (hk : kd a = 17) : ev 69 28 [v0, v1] (.ref a :: st) im rm = ev 69 31 [v0, v1] (.int (im a 10) :: st) (im) (rm) := ev_getI pm_m69 d69_28 f7_66 rfl hk rfl
theorem d69_31 : decode prog_1_method_30_code 31 = .ok (.iload_n 1, 1) := by decide +kernel
theorem s69_31 {v0 : Value} {l1 : Int32} {st : List Value} {im : IM} {rm : RM}  : ev 69 31 [v0, .int l1] st im rm = ev 69 32 [v0, .int l1] (.int l1 :: st) (im) (rm) := ev_iload_n pm_m69 d69_31 rfl rfl
theorem d69_32 : decode prog_1_method_30_code 32 = .ok (.iadd, 1) := by decide +kernel
theorem s69_32 {v0 v1 : Value} {x : Int32} {y : Int32} {st : List Value} {im : IM} {rm : RM}  : ev 69 32 [v0, v1] (.int y :: .int x :: st) im rm = ev 69 33 [v0, v1] (.int (x + y) :: st) (im) (rm) := ev_iadd pm_m69 d69_32 rfl
theorem d69_33 : decode prog_1_method_30_code 33 = .ok (.putfield 66, 3) := by decide +kernel
theorem s69_33 {v0 v1 : Value} {a : Nat} {v : Int32} {st : List Value} {im : IM} {rm : RM} (hk : kd a = 17) : ev 69 33 [v0, v1] (.int v :: .ref a :: st) im rm = ev 69 36 [v0, v1] st (pm_w2 im a 10 v) (rm) := ev_putI pm_m69 d69_33 f7_66 rfl rfl hk rfl
theorem d69_36 : decode prog_1_method_30_code 36 = .ok (.aload_n 0, 1) := by decide +kernel
theorem s69_36 {v1 : Value} {l1 : Nat} {st : List Value} {im : IM} {rm : RM}  : ev 69 36 [.ref l1, v1] st im rm = ev 69 37 [.ref l1, v1] (.ref l1 :: st) (im) (rm) := ev_aload_n pm_m69 d69_36 rfl rfl
theorem d69_37 : decode prog_1_method_30_code 37 = .ok (.getfield 66, 3) := by decide +kernel
theorem s69_37 {v0 v1 : Value} {a : Nat} {st : List Value} {im : IM} {rm : RM} (hk : kd a = 17) : ev 69 37 [v0, v1] (.ref a :: st) im rm = ev 69 40 [v0, v1] (.int (im a 10) :: st) (im) (rm) := ev_getI pm_m69 d69_37 f7_66 rfl hk rfl
theorem d69_40 : decode prog_1_method_30_code 40 = .ok (.ireturn, 1) := by decide +kernel
theorem s69_40 {v0 v1 : Value} {x : Int32} {im : IM} {rm : RM} : ev 69 40 [v0, v1] [.int x] im rm = some (some (.int x), im, rm) := ev_ireturn pm_m69 d69_40 rfl
theorem d70_0 : decode prog_1_method_31_code 0 = .ok (.iload_n 1, 1) := by decide +kernel
theorem s70_0 {v0 v2 v3 : Value} {l1 : Int32} {st : List Value} {im : IM} {rm : RM}  : ev 70 0 [v0, .int l1, v2, v3] st im rm = ev 70 1 [v0, .int l1, v2, v3] (.int l1 :: st) (im) (rm) := ev_iload_n pm_m70 d70_0 rfl rfl
theorem d70_1 : decode prog_1_method_31_code 1 = .ok (.iconst 2, 1) := by decide +kernel
theorem s70_1 {v0 v1 v2 v3 : Value}  {st : List Value} {im : IM} {rm : RM}  : ev 70 1 [v0, v1, v2, v3] st im rm = ev 70 2 [v0, v1, v2, v3] (.int (nI 2) :: st) (im) (rm) := ev_iconst pm_m70 d70_1 rfl rfl
theorem d70_2 : decode prog_1_method_31_code 2 = .ok (.invokestatic 109, 3) := by decide +kernel
theorem s70_2 {v0 v1 v2 v3 : Value} {p1 : Int32} {p2 : Int32} {im : IM} {rm : RM}  : ev 70 2 [v0, v1, v2, v3] [.int p2, .int p1] im rm = (ev 75 0 [.int p1, .int p2] [] im rm).bind (fun r => ev 70 5 [v0, v1, v2, v3] (r.1.toList ++ []) r.2.1 r.2.2) := ev_callS pm_m70 d70_2 (by decide) l7_109 rfl pm_m75 rfl ⟨rfl, rfl⟩ rfl rfl
theorem d70_5 : decode prog_1_method_31_code 5 = .ok (.ifCond .eq 11, 3) := by decide +kernel
theorem s70_5 {v0 v1 v2 v3 : Value} {x : Int32} {st : List Value} {im : IM} {rm : RM} : ev 70 5 [v0, v1, v2, v3] (.int x :: st) im rm = if x = nI 0 then ev 70 16 [pm_u, pm_u, pm_u, pm_u] st im rm else ev 70 8 [v0, v1, v2, v3] st im rm := ev_if_eq (y := 0) pm_m70 d70_5 rfl rfl rfl
theorem d70_8 : decode prog_1_method_31_code 8 = .ok (.iload_n 2, 1) := by decide +kernel
theorem s70_8 {v0 v1 v3 : Value} {l1 : Int32} {st : List Value} {im : IM} {rm : RM}  : ev 70 8 [v0, v1, .int l1, v3] st im rm = ev 70 9 [v0, v1, .int l1, v3] (.int l1 :: st) (im) (rm) := ev_iload_n pm_m70 d70_8 rfl rfl
theorem d70_9 : decode prog_1_method_31_code 9 = .ok (.iconst 4, 1) := by decide +kernel
theorem s70_9 {v0 v1 v2 v3 : Value}  {st : List Value} {im : IM} {rm : RM}  : ev 70 9 [v0, v1, v2, v3] st im rm = ev 70 10 [v0, v1, v2, v3] (.int (nI 4) :: st) (im) (rm) := ev_iconst pm_m70 d70_9 rfl rfl
theorem d70_10 : decode prog_1_method_31_code 10 = .ok (.invokestatic 109, 3) := by decide +kernel
theorem s70_10 {v0 v1 v2 v3 : Value} {p1 : Int32} {p2 : Int32} {im : IM} {rm : RM}  : ev 70 10 [v0, v1, v2, v3] [.int p2, .int p1] im rm = (ev 75 0 [.int p1, .int p2] [] im rm).bind (fun r => ev 70 13 [v0, v1, v2, v3] (r.1.toList ++ []) r.2.1 r.2.2) := ev_callS pm_m70 d70_10 (by decide) l7_109 rfl pm_m75 rfl ⟨rfl, rfl⟩ rfl rfl
theorem d70_13 : decode prog_1_method_31_code 13 = .ok (.ifCond .ne 6, 3) := by decide +kernel
theorem s70_13 {v0 v1 v2 v3 : Value} {x : Int32} {st : List Value} {im : IM} {rm : RM} : ev 70 13 [v0, v1, v2, v3] (.int x :: st) im rm = if x = nI 0 then ev 70 16 [pm_u, pm_u, pm_u, pm_u] st im rm else ev 70 19 [v0, v1, v2, v3] st im rm := ev_if_ne (y := 0) pm_m70 d70_13 rfl rfl rfl
theorem d70_16 : decode prog_1_method_31_code 16 = .ok (.bipush (-2), 2) := by decide +kernel
theorem s70_16 {v0 v1 v2 v3 : Value}  {st : List Value} {im : IM} {rm : RM}  : ev 70 16 [v0, v1, v2, v3] st im rm = ev 70 18 [v0, v1, v2, v3] (.int ((-2 : Int32)) :: st) (im) (rm) := ev_bipush pm_m70 d70_16 rfl rfl
theorem d70_18 : decode prog_1_method_31_code 18 = .ok (.ireturn, 1) := by decide +kernel
theorem s70_18 {v0 v1 v2 v3 : Value} {x : Int32} {im : IM} {rm : RM} : ev 70 18 [v0, v1, v2, v3] [.int x] im rm = some (some (.int x), im, rm) := ev_ireturn pm_m70 d70_18 rfl
theorem d70_19 : decode prog_1_method_31_code 19 = .ok (.iload_n 3, 1) := by decide +kernel
theorem s70_19 {v0 v1 v2 : Value} {l1 : Int32} {st : List Value} {im : IM} {rm : RM}  : ev 70 19 [v0, v1, v2, .int l1] st im rm = ev 70 20 [v0, v1, v2, .int l1] (.int l1 :: st) (im) (rm) := ev_iload_n pm_m70 d70_19 rfl rfl
theorem d70_20 : decode prog_1_method_31_code 20 = .ok (.bipush 8, 2) := by decide +kernel
theorem s70_20 {v0 v1 v2 v3 : Value}  {st : List Value} {im : IM} {rm : RM}  : ev 70 20 [v0, v1, v2, v3] st im rm = ev 70 22 [v0, v1, v2, v3] (.int (nI 8) :: st) (im) (rm) := ev_bipush pm_m70 d70_20 rfl rfl
theorem d70_22 : decode prog_1_method_31_code 22 = .ok (.invokestatic 109, 3) := by decide +kernel
theorem s70_22 {v0 v1 v2 v3 : Value} {p1 : Int32} {p2 : Int32} {im : IM} {rm : RM}  : ev 70 22 [v0, v1, v2, v3] [.int p2, .int p1] im rm = (ev 75 0 [.int p1, .int p2] [] im rm).bind (fun r => ev 70 25 [v0, v1, v2, v3] (r.1.toList ++ []) r.2.1 r.2.2) := ev_callS pm_m70 d70_22 (by decide) l7_109 rfl pm_m75 rfl ⟨rfl, rfl⟩ rfl rfl
theorem d70_25 : decode prog_1_method_31_code 25 = .ok (.ifCond .ne 6, 3) := by decide +kernel
theorem s70_25 {v0 v1 v2 v3 : Value} {x : Int32} {st : List Value} {im : IM} {rm : RM} : ev 70 25 [v0, v1, v2, v3] (.int x :: st) im rm = if x = nI 0 then ev 70 28 [v0, v1, v2, v3] st im rm else ev 70 31 [v0, v1, v2, v3] st im rm := ev_if_ne (y := 0) pm_m70 d70_25 rfl rfl rfl
theorem d70_28 : decode prog_1_method_31_code 28 = .ok (.bipush (-3), 2) := by decide +kernel
theorem s70_28 {v0 v1 v2 v3 : Value}  {st : List Value} {im : IM} {rm : RM}  : ev 70 28 [v0, v1, v2, v3] st im rm = ev 70 30 [v0, v1, v2, v3] (.int ((-3 : Int32)) :: st) (im) (rm) := ev_bipush pm_m70 d70_28 rfl rfl
theorem d70_30 : decode prog_1_method_31_code 30 = .ok (.ireturn, 1) := by decide +kernel
theorem s70_30 {v0 v1 v2 v3 : Value} {x : Int32} {im : IM} {rm : RM} : ev 70 30 [v0, v1, v2, v3] [.int x] im rm = some (some (.int x), im, rm) := ev_ireturn pm_m70 d70_30 rfl
theorem d70_31 : decode prog_1_method_31_code 31 = .ok (.aload_n 0, 1) := by decide +kernel
theorem s70_31 {v1 v2 v3 : Value} {l1 : Nat} {st : List Value} {im : IM} {rm : RM}  : ev 70 31 [.ref l1, v1, v2, v3] st im rm = ev 70 32 [.ref l1, v1, v2, v3] (.ref l1 :: st) (im) (rm) := ev_aload_n pm_m70 d70_31 rfl rfl
theorem d70_32 : decode prog_1_method_31_code 32 = .ok (.getfield 62, 3) := by decide +kernel
theorem s70_32 {v0 v1 v2 v3 : Value} {a : Nat} {st : List Value} {im : IM} {rm : RM} (hk : kd a = 17) : ev 70 32 [v0, v1, v2, v3] (.ref a :: st) im rm = ev 70 35 [v0, v1, v2, v3] (pm_ro (rm a 9) :: st) (im) (rm) := ev_getR pm_m70 d70_32 f7_62 rfl hk rfl
theorem d70_35 : decode prog_1_method_31_code 35 = .ok (.getfield 291, 3) := by decide +kernel
theorem s70_35 {v0 v1 v2 v3 : Value} {a : Nat} {st : List Value} {im : IM} {rm : RM} (hk : kd a = 15) : ev 70 35 [v0, v1, v2, v3] (.ref a :: st) im rm = ev 70 38 [v0, v1, v2, v3] (.int (im a 0) :: st) (im) (rm) := ev_getI pm_m70 d70_35 f7_291 rfl hk rfl
theorem d70_38 : decode prog_1_method_31_code 38 = .ok (.bipush 20, 2) := by decide +kernel
theorem s70_38 {v0 v1 v2 v3 : Value}  {st : List Value} {im : IM} {rm : RM}  : ev 70 38 [v0, v1, v2, v3] st im rm = ev 70 40 [v0, v1, v2, v3] (.int (nI 20) :: st) (im) (rm) := ev_bipush pm_m70 d70_38 rfl rfl
theorem d70_40 : decode prog_1_method_31_code 40 = .ok (.if_icmp .lt 6, 3) := by decide +kernel
theorem s70_40 {v0 v1 v2 v3 : Value} {x : Int32} {y : Int32} {st : List Value} {im : IM} {rm : RM} : ev 70 40 [v0, v1, v2, v3] (.int y :: .int x :: st) im rm = if x < y then ev 70 46 [v0, v1, v2, v3] st im rm else ev 70 43 [v0, v1, v2, v3] st im rm := ev_icmp_lt pm_m70 d70_40 rfl rfl rfl
theorem d70_43 : decode prog_1_method_31_code 43 = .ok (.bipush (-5), 2) := by decide +kernel
theorem s70_43 {v0 v1 v2 v3 : Value}  {st : List Value} {im : IM} {rm : RM}  : ev 70 43 [v0, v1, v2, v3] st im rm = ev 70 45 [v0, v1, v2, v3] (.int ((-5 : Int32)) :: st) (im) (rm) := ev_bipush pm_m70 d70_43 rfl rfl
theorem d70_45 : decode prog_1_method_31_code 45 = .ok (.ireturn, 1) := by decide +kernel
theorem s70_45 {v0 v1 v2 v3 : Value} {x : Int32} {im : IM} {rm : RM} : ev 70 45 [v0, v1, v2, v3] [.int x] im rm = some (some (.int x), im, rm) := ev_ireturn pm_m70 d70_45 rfl
theorem d70_46 : decode prog_1_method_31_code 46 = .ok (.aload_n 0, 1) := by decide +kernel
theorem s70_46 {v1 v2 v3 : Value} {l1 : Nat} {st : List Value} {im : IM} {rm : RM}  : ev 70 46 [.ref l1, v1, v2, v3] st im rm = ev 70 47 [.ref l1, v1, v2, v3] (.ref l1 :: st) (im) (rm) := ev_aload_n pm_m70 d70_46 rfl rfl
theorem d70_47 : decode prog_1_method_31_code 47 = .ok (.getfield 62, 3) := by decide +kernel
theorem s70_47 {v0 v1 v2 v3 : Value} {a : Nat} {st : List Value} {im : IM} {rm : RM} (hk : kd a = 17) : ev 70 47 [v0, v1, v2, v3] (.ref a :: st) im rm = ev 70 50 [v0, v1, v2, v3] (pm_ro (rm a 9) :: st) (im) (rm) := ev_getR pm_m70 d70_47 f7_62 rfl hk rfl
theorem d70_50 : decode prog_1_method_31_code 50 = .ok (.iload_n 1, 1) := by decide +kernel
theorem s70_50 {v0 v2 v3 : Value} {l1 : Int32} {st : List Value} {im : IM} {rm : RM}  : ev 70 50 [v0, .int l1, v2, v3] st im rm = ev 70 51 [v0, .int l1, v2, v3] (.int l1 :: st) (im) (rm) := ev_iload_n pm_m70 d70_50 rfl rfl
theorem d70_51 : decode prog_1_method_31_code 51 = .ok (.iload_n 2, 1) := by decide +kernel
theorem s70_51 {v0 v1 v3 : Value} {l1 : Int32} {st : List Value} {im : IM} {rm : RM}  : ev 70 51 [v0, v1, .int l1, v3] st im rm = ev 70 52 [v0, v1, .int l1, v3] (.int l1 :: st) (im) (rm) := ev_iload_n pm_m70 d70_51 rfl rfl
theorem d70_52 : decode prog_1_method_31_code 52 = .ok (.iload_n 3, 1) := by decide +kernel
theorem s70_52 {v0 v1 v2 : Value} {l1 : Int32} {st : List Value} {im : IM} {rm : RM}  : ev 70 52 [v0, v1, v2, .int l1] st im rm = ev 70 53 [v0, v1, v2, .int l1] (.int l1 :: st) (im) (rm) := ev_iload_n pm_m70 d70_52 rfl rfl
theorem d70_53 : decode prog_1_method_31_code 53 = .ok (.invokevirtual 292, 3) := by decide +kernel
theorem s70_53 {v0 v1 v2 v3 : Value} {a : Nat} {p1 : Int32} {p2 : Int32} {p3 : Int32} {im : IM} {rm : RM} (hk : kd a = 15) : ev 70 53 [v0, v1, v2, v3] [.int p3, .int p2, .int p1, .ref a] im rm = (ev 21 0 [.ref a, .int p1, .int p2, .int p3] [] im rm).bind (fun r => ev 70 56 [v0, v1, v2, v3] (r.1.toList ++ []) r.2.1 r.2.2) := ev_callV pm_m70 d70_53 l7_292 rfl pm_m21 (by decide) hk rfl ⟨rfl, rfl⟩ rfl rfl
theorem d70_56 : decode prog_1_method_31_code 56 = .ok (.aload_n 0, 1) := by decide +kernel
theorem s70_56 {v1 v2 v3 : Value} {l1 : Nat} {st : List Value} {im : IM} {rm : RM}  : ev 70 56 [.ref l1, v1, v2, v3] st im rm = ev 70 57 [.ref l1, v1, v2, v3] (.ref l1 :: st) (im) (rm) := ev_aload_n pm_m70 d70_56 rfl rfl
theorem d70_57 : decode prog_1_method_31_code 57 = .ok (.getfield 62, 3) := by decide +kernel
theorem s70_57 {v0 v1 v2 v3 : Value} {a : Nat} {st : List Value} {im : IM} {rm : RM} (hk : kd a = 17) : ev 70 57 [v0, v1, v2, v3] (.ref a :: st) im rm = ev 70 60 [v0, v1, v2, v3] (pm_ro (rm a 9) :: st) (im) (rm) := ev_getR pm_m70 d70_57 f7_62 rfl hk rfl
theorem d70_60 : decode prog_1_method_31_code 60 = .ok (.getfield 291, 3) := by decide +kernel
theorem s70_60 {v0 v1 v2 v3 : Value} {a : Nat} {st : List Value} {im : IM} {rm : RM} (hk : kd a = 15) : ev 70 60 [v0, v1, v2, v3] (.ref a :: st) im rm = ev 70 63 [v0, v1, v2, v3] (.int (im a 0) :: st) (im) (rm) := ev_getI pm_m70 d70_60 f7_291 rfl hk rfl
theorem d70_63 : decode prog_1_method_31_code 63 = .ok (.iconst 1, 1) := by decide +kernel
theorem s70_63 {v0 v1 v2 v3 : Value}  {st : List Value} {im : IM} {rm : RM}  : ev 70 63 [v0, v1, v2, v3] st im rm = ev 70 64 [v0, v1, v2, v3] (.int (nI 1) :: st) (im) (rm) := ev_iconst pm_m70 d70_63 rfl rfl
theorem d70_64 : decode prog_1_method_31_code 64 = .ok (.isub, 1) := by decide +kernel
theorem s70_64 {v0 v1 v2 v3 : Value} {x : Int32} {y : Int32} {st : List Value} {im : IM} {rm : RM}  : ev 70 64 [v0, v1, v2, v3] (.int y :: .int x :: st) im rm = ev 70 65 [v0, v1, v2, v3] (.int (x - y) :: st) (im) (rm) := ev_isub pm_m70 d70_64 rfl
theorem d70_65 : decode prog_1_method_31_code 65 = .ok (.ireturn, 1) := by decide +kernel
theorem s70_65 {v0 v1 v2 v3 : Value} {x : Int32} {im : IM} {rm : RM} : ev 70 65 [v0, v1, v2, v3] [.int x] im rm = some (some (.int x), im, rm) := ev_ireturn pm_m70 d70_65 rfl
theorem d71_0 : decode prog_1_method_32_code 0 = .ok (.iload_n 1, 1) := by decide +kernel
theorem s71_0 {v0 : Value} {l1 : Int32} {st : List Value} {im : IM} {rm : RM}  : ev 71 0 [v0, .int l1] st im rm = ev 71 1 [v0, .int l1] (.int l1 :: st) (im) (rm) := ev_iload_n pm_m71 d71_0 rfl rfl
theorem d71_1 : decode prog_1_method_32_code 1 = .ok (.aload_n 0, 1) := by decide +kernel
theorem s71_1 {v1 : Value} {l1 : Nat} {st : List Value} {im : IM} {rm : RM}  : ev 71 1 [.ref l1, v1] st im rm = ev 71 2 [.ref l1, v1] (.ref l1 :: st) (im) (rm) := ev_aload_n pm_m71 d71_1 rfl rfl
theorem d71_2 : decode prog_1_method_32_code 2 = .ok (.getfield 62, 3) := by decide +kernel
theorem s71_2 {v0 v1 : Value} {a : Nat} {st : List Value} {im : IM} {rm : RM} (hk : kd a = 17) : ev 71 2 [v0, v1] (.ref a :: st) im rm = ev 71 5 [v0, v1] (pm_ro (rm a 9) :: st) (im) (rm) := ev_getR pm_m71 d71_2 f7_62 rfl hk rfl
theorem d71_5 : decode prog_1_method_32_code 5 = .ok (.getfield 291, 3) := by decide +kernel
theorem s71_5 {v0 v1 : Value} {a : Nat} {st : List Value} {im : IM} {rm : RM} (hk : kd a = 15) : ev 71 5 [v0, v1] (.ref a :: st) im rm = ev 71 8 [v0, v1] (.int (im a 0) :: st) (im) (rm) := ev_getI pm_m71 d71_5 f7_291 rfl hk rfl
theorem d71_8 : decode prog_1_method_32_code 8 = .ok (.invokestatic 109, 3) := by decide +kernel
theorem s71_8 {v0 v1 : Value} {p1 : Int32} {p2 : Int32} {im : IM} {rm : RM}  : ev 71 8 [v0, v1] [.int p2, .int p1] im rm = (ev 75 0 [.int p1, .int p2] [] im rm).bind (fun r => ev 71 11 [v0, v1] (r.1.toList ++ []) r.2.1 r.2.2) := ev_callS pm_m71 d71_8 (by decide) l7_109 rfl pm_m75 rfl ⟨rfl, rfl⟩ rfl rfl
theorem d71_11 : decode prog_1_method_32_code 11 = .ok (.ifCond .ne 6, 3) := by decide +kernel
theorem s71_11 {v0 v1 : Value} {x : Int32} {st : List Value} {im : IM} {rm : RM} : ev 71 11 [v0, v1] (.int x :: st) im rm = if x = nI 0 then ev 71 14 [v0, v1] st im rm else ev 71 17 [v0, v1] st im rm := ev_if_ne (y := 0) pm_m71 d71_11 rfl rfl rfl
theorem d71_14 : decode prog_1_method_32_code 14 = .ok (.bipush (-2), 2) := by decide +kernel
theorem s71_14 {v0 v1 : Value}  {st : List Value} {im : IM} {rm : RM}  : ev 71 14 [v0, v1] st im rm = ev 71 16 [v0, v1] (.int ((-2 : Int32)) :: st) (im) (rm) := ev_bipush pm_m71 d71_14 rfl rfl
theorem d71_16 : decode prog_1_method_32_code 16 = .ok (.ireturn, 1) := by decide +kernel
theorem s71_16 {v0 v1 : Value} {x : Int32} {im : IM} {rm : RM} : ev 71 16 [v0, v1] [.int x] im rm = some (some (.int x), im, rm) := ev_ireturn pm_m71 d71_16 rfl
theorem d71_17 : decode prog_1_method_32_code 17 = .ok (.aload_n 0, 1) := by decide +kernel
theorem s71_17 {v1 : Value} {l1 : Nat} {st : List Value} {im : IM} {rm : RM}  : ev 71 17 [.ref l1, v1] st im rm = ev 71 18 [.ref l1, v1] (.ref l1 :: st) (im) (rm) := ev_aload_n pm_m71 d71_17 rfl rfl
theorem d71_18 : decode prog_1_method_32_code 18 = .ok (.getfield 62, 3) := by decide +kernel
theorem s71_18 {v0 v1 : Value} {a : Nat} {st : List Value} {im : IM} {rm : RM} (hk : kd a = 17) : ev 71 18 [v0, v1] (.ref a :: st) im rm = ev 71 21 [v0, v1] (pm_ro (rm a 9) :: st) (im) (rm) := ev_getR pm_m71 d71_18 f7_62 rfl hk rfl
theorem d71_21 : decode prog_1_method_32_code 21 = .ok (.getfield 293, 3) := by decide +kernel
theorem s71_21 {v0 v1 : Value} {a : Nat} {st : List Value} {im : IM} {rm : RM} (hk : kd a = 15) : ev 71 21 [v0, v1] (.ref a :: st) im rm = ev 71 24 [v0, v1] (pm_ro (rm a 4) :: st) (im) (rm) := ev_getR pm_m71 d71_21 f7_293 rfl hk rfl
theorem d71_24 : decode prog_1_method_32_code 24 = .ok (.iload_n 1, 1) := by decide +kernel
theorem s71_24 {v0 : Value} {l1 : Int32} {st : List Value} {im : IM} {rm : RM}  : ev 71 24 [v0, .int l1] st im rm = ev 71 25 [v0, .int l1] (.int l1 :: st) (im) (rm) := ev_iload_n pm_m71 d71_24 rfl rfl
theorem d71_25 : decode prog_1_method_32_code 25 = .ok (.iaload, 1) := by decide +kernel
theorem s71_25 {v0 v1 : Value} {a : Nat} {i : Int32} {st : List Value} {im : IM} {rm : RM} (hk : kd a = 0) (hi : pm_in i (ln a) = true) : ev 71 25 [v0, v1] (.int i :: .ref a :: st) im rm = ev 71 26 [v0, v1] (.int (im a i.toNatClampNeg) :: st) (im) (rm) := ev_iald pm_m71 d71_25 hk hi rfl
theorem d71_26 : decode prog_1_method_32_code 26 = .ok (.iconst (-1), 1) := by decide +kernel
theorem s71_26 {v0 v1 : Value}  {st : List Value} {im : IM} {rm : RM}  : ev 71 26 [v0, v1] st im rm = ev 71 27 [v0, v1] (.int ((-1 : Int32)) :: st) (im) (rm) := ev_iconst pm_m71 d71_26 rfl rfl
theorem d71_27 : decode prog_1_method_32_code 27 = .ok (.if_icmp .eq 6, 3) := by decide +kernel
theorem s71_27 {v0 v1 : Value} {x : Int32} {y : Int32} {st : List Value} {im : IM} {rm : RM} : ev 71 27 [v0, v1] (.int y :: .int x :: st) im rm = if x = y then ev 71 33 [v0, v1] st im rm else ev 71 30 [v0, v1] st im rm := ev_icmp_eq pm_m71 d71_27 rfl rfl rfl
theorem d71_30 : decode prog_1_method_32_code 30 = .ok (.bipush (-4), 2) := by decide +kernel
theorem s71_30 {v0 v1 : Value}  {st : List Value} {im : IM} {rm : RM}  : ev 71 30 [v0, v1] st im rm = ev 71 32 [v0, v1] (.int ((-4 : Int32)) :: st) (im) (rm) := ev_bipush pm_m71 d71_30 rfl rfl
theorem d71_32 : decode prog_1_method_32_code 32 = .ok (.ireturn, 1) := by decide +kernel
theorem s71_32 {v0 v1 : Value} {x : Int32} {im : IM} {rm : RM} : ev 71 32 [v0, v1] [.int x] im rm = some (some (.int x), im, rm) := ev_ireturn pm_m71 d71_32 rfl
theorem d71_33 : decode prog_1_method_32_code 33 = .ok (.aload_n 0, 1) := by decide +kernel
theorem s71_33 {v1 : Value} {l1 : Nat} {st : List Value} {im : IM} {rm : RM}  : ev 71 33 [.ref l1, v1] st im rm = ev 71 34 [.ref l1, v1] (.ref l1 :: st) (im) (rm) := ev_aload_n pm_m71 d71_33 rfl rfl
theorem d71_34 : decode prog_1_method_32_code 34 = .ok (.getfield 62, 3) := by decide +kernel
theorem s71_34 {v0 v1 : Value} {a : Nat} {st : List Value} {im : IM} {rm : RM} (hk : kd a = 17) : ev 71 34 [v0, v1] (.ref a :: st) im rm = ev 71 37 [v0, v1] (pm_ro (rm a 9) :: st) (im) (rm) := ev_getR pm_m71 d71_34 f7_62 rfl hk rfl
theorem d71_37 : decode prog_1_method_32_code 37 = .ok (.getfield 293, 3) := by decide +kernel
theorem s71_37 {v0 v1 : Value} {a : Nat} {st : List Value} {im : IM} {rm : RM} (hk : kd a = 15) : ev 71 37 [v0, v1] (.ref a :: st) im rm = ev 71 40 [v0, v1] (pm_ro (rm a 4) :: st) (im) (rm) := ev_getR pm_m71 d71_37 f7_293 rfl hk rfl
theorem d71_40 : decode prog_1_method_32_code 40 = .ok (.iload_n 1, 1) := by decide +kernel
theorem s71_40 {v0 : Value} {l1 : Int32} {st : List Value} {im : IM} {rm : RM}  : ev 71 40 [v0, .int l1] st im rm = ev 71 41 [v0, .int l1] (.int l1 :: st) (im) (rm) := ev_iload_n pm_m71 d71_40 rfl rfl
theorem d71_41 : decode prog_1_method_32_code 41 = .ok (.aload_n 0, 1) := by decide +kernel
theorem s71_41 {v1 : Value} {l1 : Nat} {st : List Value} {im : IM} {rm : RM}  : ev 71 41 [.ref l1, v1] st im rm = ev 71 42 [.ref l1, v1] (.ref l1 :: st) (im) (rm) := ev_aload_n pm_m71 d71_41 rfl rfl
theorem d71_42 : decode prog_1_method_32_code 42 = .ok (.getfield 66, 3) := by decide +kernel
theorem s71_42 {v0 v1 : Value} {a : Nat} {st : List Value} {im : IM} {rm : RM} (hk : kd a = 17) : ev 71 42 [v0, v1] (.ref a :: st) im rm = ev 71 45 [v0, v1] (.int (im a 10) :: st) (im) (rm) := ev_getI pm_m71 d71_42 f7_66 rfl hk rfl
theorem d71_45 : decode prog_1_method_32_code 45 = .ok (.iastore, 1) := by decide +kernel
theorem s71_45 {v0 v1 : Value} {a : Nat} {i : Int32} {v : Int32} {st : List Value} {im : IM} {rm : RM} (hk : kd a = 0) (hi : pm_in i (ln a) = true) : ev 71 45 [v0, v1] (.int v :: .int i :: .ref a :: st) im rm = ev 71 46 [v0, v1] st (pm_w2 im a i.toNatClampNeg v) (rm) := ev_iast pm_m71 d71_45 hk hi rfl
theorem d71_46 : decode prog_1_method_32_code 46 = .ok (.iconst 1, 1) := by decide +kernel
theorem s71_46 {v0 v1 : Value}  {st : List Value} {im : IM} {rm : RM}  : ev 71 46 [v0, v1] st im rm = ev 71 47 [v0, v1] (.int (nI 1) :: st) (im) (rm) := ev_iconst pm_m71 d71_46 rfl rfl
theorem d71_47 : decode prog_1_method_32_code 47 = .ok (.ireturn, 1) := by decide +kernel
theorem s71_47 {v0 v1 : Value} {x : Int32} {im : IM} {rm : RM} : ev 71 47 [v0, v1] [.int x] im rm = some (some (.int x), im, rm) := ev_ireturn pm_m71 d71_47 rfl
theorem d72_0 : decode prog_1_method_33_code 0 = .ok (.iload_n 1, 1) := by decide +kernel
theorem s72_0 {v0 v2 v3 : Value} {l1 : Int32} {st : List Value} {im : IM} {rm : RM}  : ev 72 0 [v0, .int l1, v2, v3] st im rm = ev 72 1 [v0, .int l1, v2, v3] (.int l1 :: st) (im) (rm) := ev_iload_n pm_m72 d72_0 rfl rfl
theorem d72_1 : decode prog_1_method_33_code 1 = .ok (.iconst 2, 1) := by decide +kernel
theorem s72_1 {v0 v1 v2 v3 : Value}  {st : List Value} {im : IM} {rm : RM}  : ev 72 1 [v0, v1, v2, v3] st im rm = ev 72 2 [v0, v1, v2, v3] (.int (nI 2) :: st) (im) (rm) := ev_iconst pm_m72 d72_1 rfl rfl
theorem d72_2 : decode prog_1_method_33_code 2 = .ok (.invokestatic 109, 3) := by decide +kernel
theorem s72_2 {v0 v1 v2 v3 : Value} {p1 : Int32} {p2 : Int32} {im : IM} {rm : RM}  : ev 72 2 [v0, v1, v2, v3] [.int p2, .int p1] im rm = (ev 75 0 [.int p1, .int p2] [] im rm).bind (fun r => ev 72 5 [v0, v1, v2, v3] (r.1.toList ++ []) r.2.1 r.2.2) := ev_callS pm_m72 d72_2 (by decide) l7_109 rfl pm_m75 rfl ⟨rfl, rfl⟩ rfl rfl
theorem d72_5 : decode prog_1_method_33_code 5 = .ok (.ifCond .eq 11, 3) := by decide +kernel
theorem s72_5 {v0 v1 v2 v3 : Value} {x : Int32} {st : List Value} {im : IM} {rm : RM} : ev 72 5 [v0, v1, v2, v3] (.int x :: st) im rm = if x = nI 0 then ev 72 16 [pm_u, pm_u, pm_u, pm_u] st im rm else ev 72 8 [v0, v1, v2, v3] st im rm := ev_if_eq (y := 0) pm_m72 d72_5 rfl rfl rfl
theorem d72_8 : decode prog_1_method_33_code 8 = .ok (.iload_n 2, 1) := by decide +kernel
theorem s72_8 {v0 v1 v3 : Value} {l1 : Int32} {st : List Value} {im : IM} {rm : RM}  : ev 72 8 [v0, v1, .int l1, v3] st im rm = ev 72 9 [v0, v1, .int l1, v3] (.int l1 :: st) (im) (rm) := ev_iload_n pm_m72 d72_8 rfl rfl
theorem d72_9 : decode prog_1_method_33_code 9 = .ok (.iconst 4, 1) := by decide +kernel
theorem s72_9 {v0 v1 v2 v3 : Value}  {st : List Value} {im : IM} {rm : RM}  : ev 72 9 [v0, v1, v2, v3] st im rm = ev 72 10 [v0, v1, v2, v3] (.int (nI 4) :: st) (im) (rm) := ev_iconst pm_m72 d72_9 rfl rfl
theorem d72_10 : decode prog_1_method_33_code 10 = .ok (.invokestatic 109, 3) := by decide +kernel
theorem s72_10 {v0 v1 v2 v3 : Value} {p1 : Int32} {p2 : Int32} {im : IM} {rm : RM}  : ev 72 10 [v0, v1, v2, v3] [.int p2, .int p1] im rm = (ev 75 0 [.int p1, .int p2] [] im rm).bind (fun r => ev 72 13 [v0, v1, v2, v3] (r.1.toList ++ []) r.2.1 r.2.2) := ev_callS pm_m72 d72_10 (by decide) l7_109 rfl pm_m75 rfl ⟨rfl, rfl⟩ rfl rfl
theorem d72_13 : decode prog_1_method_33_code 13 = .ok (.ifCond .ne 6, 3) := by decide +kernel
theorem s72_13 {v0 v1 v2 v3 : Value} {x : Int32} {st : List Value} {im : IM} {rm : RM} : ev 72 13 [v0, v1, v2, v3] (.int x :: st) im rm = if x = nI 0 then ev 72 16 [pm_u, pm_u, pm_u, pm_u] st im rm else ev 72 19 [v0, v1, v2, v3] st im rm := ev_if_ne (y := 0) pm_m72 d72_13 rfl rfl rfl
theorem d72_16 : decode prog_1_method_33_code 16 = .ok (.bipush (-2), 2) := by decide +kernel
theorem s72_16 {v0 v1 v2 v3 : Value}  {st : List Value} {im : IM} {rm : RM}  : ev 72 16 [v0, v1, v2, v3] st im rm = ev 72 18 [v0, v1, v2, v3] (.int ((-2 : Int32)) :: st) (im) (rm) := ev_bipush pm_m72 d72_16 rfl rfl
theorem d72_18 : decode prog_1_method_33_code 18 = .ok (.ireturn, 1) := by decide +kernel
theorem s72_18 {v0 v1 v2 v3 : Value} {x : Int32} {im : IM} {rm : RM} : ev 72 18 [v0, v1, v2, v3] [.int x] im rm = some (some (.int x), im, rm) := ev_ireturn pm_m72 d72_18 rfl
theorem d72_19 : decode prog_1_method_33_code 19 = .ok (.iload_n 3, 1) := by decide +kernel
theorem s72_19 {v0 v1 v2 : Value} {l1 : Int32} {st : List Value} {im : IM} {rm : RM}  : ev 72 19 [v0, v1, v2, .int l1] st im rm = ev 72 20 [v0, v1, v2, .int l1] (.int l1 :: st) (im) (rm) := ev_iload_n pm_m72 d72_19 rfl rfl
theorem d72_20 : decode prog_1_method_33_code 20 = .ok (.sipush 200, 3) := by decide +kernel
theorem s72_20 {v0 v1 v2 v3 : Value}  {st : List Value} {im : IM} {rm : RM}  : ev 72 20 [v0, v1, v2, v3] st im rm = ev 72 23 [v0, v1, v2, v3] (.int (nI 200) :: st) (im) (rm) := ev_sipush pm_m72 d72_20 rfl rfl
theorem d72_23 : decode prog_1_method_33_code 23 = .ok (.invokestatic 117, 3) := by decide +kernel
theorem s72_23 {v0 v1 v2 v3 : Value} {p1 : Int32} {p2 : Int32} {im : IM} {rm : RM}  : ev 72 23 [v0, v1, v2, v3] [.int p2, .int p1] im rm = (ev 76 0 [.int p1, .int p2] [] im rm).bind (fun r => ev 72 26 [v0, v1, v2, v3] (r.1.toList ++ []) r.2.1 r.2.2) := ev_callS pm_m72 d72_23 (by decide) l7_117 rfl pm_m76 rfl ⟨rfl, rfl⟩ rfl rfl
theorem d72_26 : decode prog_1_method_33_code 26 = .ok (.ifCond .eq 16, 3) := by decide +kernel
theorem s72_26 {v0 v1 v2 v3 : Value} {x : Int32} {st : List Value} {im : IM} {rm : RM} : ev 72 26 [v0, v1, v2, v3] (.int x :: st) im rm = if x = nI 0 then ev 72 42 [pm_u, pm_u, pm_u, pm_u] st im rm else ev 72 29 [v0, v1, v2, v3] st im rm := ev_if_eq (y := 0) pm_m72 d72_26 rfl rfl rfl
theorem d72_29 : decode prog_1_method_33_code 29 = .ok (.aload_n 0, 1) := by decide +kernel
theorem s72_29 {v1 v2 v3 : Value} {l1 : Nat} {st : List Value} {im : IM} {rm : RM}  : ev 72 29 [.ref l1, v1, v2, v3] st im rm = ev 72 30 [.ref l1, v1, v2, v3] (.ref l1 :: st) (im) (rm) := ev_aload_n pm_m72 d72_29 rfl rfl
theorem d72_30 : decode prog_1_method_33_code 30 = .ok (.getfield 62, 3) := by decide +kernel
theorem s72_30 {v0 v1 v2 v3 : Value} {a : Nat} {st : List Value} {im : IM} {rm : RM} (hk : kd a = 17) : ev 72 30 [v0, v1, v2, v3] (.ref a :: st) im rm = ev 72 33 [v0, v1, v2, v3] (pm_ro (rm a 9) :: st) (im) (rm) := ev_getR pm_m72 d72_30 f7_62 rfl hk rfl
theorem d72_33 : decode prog_1_method_33_code 33 = .ok (.iload_n 1, 1) := by decide +kernel
theorem s72_33 {v0 v2 v3 : Value} {l1 : Int32} {st : List Value} {im : IM} {rm : RM}  : ev 72 33 [v0, .int l1, v2, v3] st im rm = ev 72 34 [v0, .int l1, v2, v3] (.int l1 :: st) (im) (rm) := ev_iload_n pm_m72 d72_33 rfl rfl
theorem d72_34 : decode prog_1_method_33_code 34 = .ok (.iload_n 2, 1) := by decide +kernel
theorem s72_34 {v0 v1 v3 : Value} {l1 : Int32} {st : List Value} {im : IM} {rm : RM}  : ev 72 34 [v0, v1, .int l1, v3] st im rm = ev 72 35 [v0, v1, .int l1, v3] (.int l1 :: st) (im) (rm) := ev_iload_n pm_m72 d72_34 rfl rfl
theorem d72_35 : decode prog_1_method_33_code 35 = .ok (.iload_n 3, 1) := by decide +kernel
theorem s72_35 {v0 v1 v2 : Value} {l1 : Int32} {st : List Value} {im : IM} {rm : RM}  : ev 72 35 [v0, v1, v2, .int l1] st im rm = ev 72 36 [v0, v1, v2, .int l1] (.int l1 :: st) (im) (rm) := ev_iload_n pm_m72 d72_35 rfl rfl
theorem d72_36 : decode prog_1_method_33_code 36 = .ok (.invokevirtual 296, 3) := by decide +kernel
theorem s72_36 {v0 v1 v2 v3 : Value} {a : Nat} {p1 : Int32} {p2 : Int32} {p3 : Int32} {im : IM} {rm : RM} (hk : kd a = 15) : ev 72 36 [v0, v1, v2, v3] [.int p3, .int p2, .int p1, .ref a] im rm = (ev 22 0 [.ref a, .int p1, .int p2, .int p3, pm_u, pm_u] [] im rm).bind (fun r => ev 72 39 [v0, v1, v2, v3] (r.1.toList ++ []) r.2.1 r.2.2) := ev_callV pm_m72 d72_36 l7_296 rfl pm_m22 (by decide) hk rfl ⟨rfl, rfl⟩ rfl rfl
theorem d72_39 : decode prog_1_method_33_code 39 = .ok (.goto 5, 3) := by decide +kernel
theorem s72_39 {v0 v1 v2 v3 : Value}  {st : List Value} {im : IM} {rm : RM}  : ev 72 39 [v0, v1, v2, v3] st im rm = ev 72 44 [pm_u, pm_u, pm_u, pm_u] st (im) (rm) := ev_goto pm_m72 d72_39 rfl rfl
theorem d72_42 : decode prog_1_method_33_code 42 = .ok (.bipush (-3), 2) := by decide +kernel
theorem s72_42 {v0 v1 v2 v3 : Value}  {st : List Value} {im : IM} {rm : RM}  : ev 72 42 [v0, v1, v2, v3] st im rm = ev 72 44 [pm_u, pm_u, pm_u, pm_u] (.int ((-3 : Int32)) :: st) (im) (rm) := ev_bipush pm_m72 d72_42 rfl rfl
theorem d72_44 : decode prog_1_method_33_code 44 = .ok (.ireturn, 1) := by decide +kernel
theorem s72_44 {v0 v1 v2 v3 : Value} {x : Int32} {im : IM} {rm : RM} : ev 72 44 [v0, v1, v2, v3] [.int x] im rm = some (some (.int x), im, rm) := ev_ireturn pm_m72 d72_44 rfl
theorem d73_0 : decode prog_1_method_34_code 0 = .ok (.iload_n 1, 1) := by decide +kernel
theorem s73_0 {v0 v2 v3 v4 v5 : Value} {l1 : Int32} {st : List Value} {im : IM} {rm : RM}  : ev 73 0 [v0, .int l1, v2, v3, v4, v5] st im rm = ev 73 1 [v0, .int l1, v2, v3, v4, v5] (.int l1 :: st) (im) (rm) := ev_iload_n pm_m73 d73_0 rfl rfl
theorem d73_1 : decode prog_1_method_34_code 1 = .ok (.iconst 4, 1) := by decide +kernel
theorem s73_1 {v0 v1 v2 v3 v4 v5 : Value}  {st : List Value} {im : IM} {rm : RM}  : ev 73 1 [v0, v1, v2, v3, v4, v5] st im rm = ev 73 2 [v0, v1, v2, v3, v4, v5] (.int (nI 4) :: st) (im) (rm) := ev_iconst pm_m73 d73_1 rfl rfl
theorem d73_2 : decode prog_1_method_34_code 2 = .ok (.invokestatic 109, 3) := by decide +kernel
theorem s73_2 {v0 v1 v2 v3 v4 v5 : Value} {p1 : Int32} {p2 : Int32} {im : IM} {rm : RM}  : ev 73 2 [v0, v1, v2, v3, v4, v5] [.int p2, .int p1] im rm = (ev 75 0 [.int p1, .int p2] [] im rm).bind (fun r => ev 73 5 [v0, v1, v2, v3, v4, v5] (r.1.toList ++ []) r.2.1 r.2.2) := ev_callS pm_m73 d73_2 (by decide) l7_109 rfl pm_m75 rfl ⟨rfl, rfl⟩ rfl rfl
theorem d73_5 : decode prog_1_method_34_code 5 = .ok (.ifCond .ne 7, 3) := by decide +kernel
theorem s73_5 {v0 v1 v2 v3 v4 v5 : Value} {x : Int32} {st : List Value} {im : IM} {rm : RM} : ev 73 5 [v0, v1, v2, v3, v4, v5] (.int x :: st) im rm = if x = nI 0 then ev 73 8 [v0, v1, v2, v3, v4, v5] st im rm else ev 73 12 [v0, v1, pm_u, pm_u, pm_u, pm_u] st im rm := ev_if_ne (y := 0) pm_m73 d73_5 rfl rfl rfl
theorem d73_8 : decode prog_1_method_34_code 8 = .ok (.ldc2_w 300, 3) := by decide +kernel
theorem s73_8 {v0 v1 v2 v3 v4 v5 : Value}  {st : List Value} {im : IM} {rm : RM}  : ev 73 8 [v0, v1, v2, v3, v4, v5] st im rm = ev 73 11 [v0, v1, v2, v3, v4, v5] (.long ((-2 : Int64)) :: st) (im) (rm) := ev_ldc2 pm_m73 d73_8 (by decide +kernel) rfl
theorem d73_11 : decode prog_1_method_34_code 11 = .ok (.lreturn, 1) := by decide +kernel
theorem s73_11 {v0 v1 v2 v3 v4 v5 : Value} {x : Int64} {im : IM} {rm : RM} : ev 73 11 [v0, v1, v2, v3, v4, v5] [.long x] im rm = some (some (.long x), im, rm) := ev_lreturn pm_m73 d73_11 rfl
theorem d73_12 : decode prog_1_method_34_code 12 = .ok (.aload_n 0, 1) := by decide +kernel
theorem s73_12 {v1 v2 v3 v4 v5 : Value} {l1 : Nat} {st : List Value} {im : IM} {rm : RM}  : ev 73 12 [.ref l1, v1, v2, v3, v4, v5] st im rm = ev 73 13 [.ref l1, v1, v2, v3, v4, v5] (.ref l1 :: st) (im) (rm) := ev_aload_n pm_m73 d73_12 rfl rfl
theorem d73_13 : decode prog_1_method_34_code 13 = .ok (.invokevirtual 233, 3) := by decide +kernel
theorem s73_13 {v0 v1 v2 v3 v4 v5 : Value} {a : Nat} {im : IM} {rm : RM} (hk : kd a = 17) : ev 73 13 [v0, v1, v2, v3, v4, v5] [.ref a] im rm = (ev 82 0 [.ref a, pm_u] [] im rm).bind (fun r => ev 73 16 [v0, v1, v2, v3, v4, v5] (r.1.toList ++ []) r.2.1 r.2.2) := ev_callV pm_m73 d73_13 l7_233 rfl pm_m82 (by decide) hk rfl ⟨rfl, rfl⟩ rfl rfl
theorem d73_16 : decode prog_1_method_34_code 16 = .ok (.aload_n 0, 1) := by decide +kernel
theorem s73_16 {v1 v2 v3 v4 v5 : Value} {l1 : Nat} {st : List Value} {im : IM} {rm : RM}  : ev 73 16 [.ref l1, v1, v2, v3, v4, v5] st im rm = ev 73 17 [.ref l1, v1, v2, v3, v4, v5] (.ref l1 :: st) (im) (rm) := ev_aload_n pm_m73 d73_16 rfl rfl
theorem d73_17 : decode prog_1_method_34_code 17 = .ok (.iload_n 1, 1) := by decide +kernel
theorem s73_17 {v0 v2 v3 v4 v5 : Value} {l1 : Int32} {st : List Value} {im : IM} {rm : RM}  : ev 73 17 [v0, .int l1, v2, v3, v4, v5] st im rm = ev 73 18 [v0, .int l1, v2, v3, v4, v5] (.int l1 :: st) (im) (rm) := ev_iload_n pm_m73 d73_17 rfl rfl
theorem d73_18 : decode prog_1_method_34_code 18 = .ok (.invokevirtual 302, 3) := by decide +kernel
theorem s73_18 {v0 v1 v2 v3 v4 v5 : Value} {a : Nat} {p1 : Int32} {im : IM} {rm : RM} (hk : kd a = 17) : ev 73 18 [v0, v1, v2, v3, v4, v5] [.int p1, .ref a] im rm = (ev 101 0 [.ref a, .int p1, pm_u, pm_u, pm_u, pm_u] [] im rm).bind (fun r => ev 73 21 [v0, v1, v2, v3, v4, v5] (r.1.toList ++ []) r.2.1 r.2.2) := ev_callV pm_m73 d73_18 l7_302 rfl pm_m101 (by decide) hk rfl ⟨rfl, rfl⟩ rfl rfl
theorem d73_21 : decode prog_1_method_34_code 21 = .ok (.lstore_n 2, 1) := by decide +kernel
theorem s73_21 {v0 v2 v3 v4 v5 : Value} {l1 : Int32} {x2 : Int64} {st : List Value} {im : IM} {rm : RM}  : ev 73 21 [v0, .int l1, v2, v3, v4, v5] (.long x2 :: st) im rm = ev 73 22 [v0, .int l1, .long x2, pm_u, v4, v5] st (im) (rm) := ev_lstore_n pm_m73 d73_21 (Nat.le_of_ble_eq_true rfl) rfl rfl
theorem d73_22 : decode prog_1_method_34_code 22 = .ok (.aload_n 0, 1) := by decide +kernel
theorem s73_22 {v1 v2 v3 v4 v5 : Value} {l1 : Nat} {st : List Value} {im : IM} {rm : RM}  : ev 73 22 [.ref l1, v1, v2, v3, v4, v5] st im rm = ev 73 23 [.ref l1, v1, v2, v3, v4, v5] (.ref l1 :: st) (im) (rm) := ev_aload_n pm_m73 d73_22 rfl rfl
theorem d73_23 : decode prog_1_method_34_code 23 = .ok (.iload_n 1, 1) := by decide +kernel
theorem s73_23 {v0 v2 v3 v4 v5 : Value} {l1 : Int32} {st : List Value} {im : IM} {rm : RM}  : ev 73 23 [v0, .int l1, v2, v3, v4, v5] st im rm = ev 73 24 [v0, .int l1, v2, v3, v4, v5] (.int l1 :: st) (im) (rm) := ev_iload_n pm_m73 d73_23 rfl rfl
theorem d73_24 : decode prog_1_method_34_code 24 = .ok (.iconst 4, 1) := by decide +kernel
theorem s73_24 {v0 v1 v2 v3 v4 v5 : Value}  {st : List Value} {im : IM} {rm : RM}  : ev 73 24 [v0, v1, v2, v3, v4, v5] st im rm = ev 73 25 [v0, v1, v2, v3, v4, v5] (.int (nI 4) :: st) (im) (rm) := ev_iconst pm_m73 d73_24 rfl rfl
theorem d73_25 : decode prog_1_method_34_code 25 = .ok (.iadd, 1) := by decide +kernel
theorem s73_25 {v0 v1 v2 v3 v4 v5 : Value} {x : Int32} {y : Int32} {st : List Value} {im : IM} {rm : RM}  : ev 73 25 [v0, v1, v2, v3, v4, v5] (.int y :: .int x :: st) im rm = ev 73 26 [v0, v1, v2, v3, v4, v5] (.int (x + y) :: st) (im) (rm) := ev_iadd pm_m73 d73_25 rfl
theorem d73_26 : decode prog_1_method_34_code 26 = .ok (.iconst 1, 1) := by decide +kernel
theorem s73_26 {v0 v1 v2 v3 v4 v5 : Value}  {st : List Value} {im : IM} {rm : RM}  : ev 73 26 [v0, v1, v2, v3, v4, v5] st im rm = ev 73 27 [v0, v1, v2, v3, v4, v5] (.int (nI 1) :: st) (im) (rm) := ev_iconst pm_m73 d73_26 rfl rfl
theorem d73_27 : decode prog_1_method_34_code 27 = .ok (.isub, 1) := by decide +kernel
theorem s73_27 {v0 v1 v2 v3 v4 v5 : Value} {x : Int32} {y : Int32} {st : List Value} {im : IM} {rm : RM}  : ev 73 27 [v0, v1, v2, v3, v4, v5] (.int y :: .int x :: st) im rm = ev 73 28 [v0, v1, v2, v3, v4, v5] (.int (x - y) :: st) (im) (rm) := ev_isub pm_m73 d73_27 rfl
theorem d73_28 : decode prog_1_method_34_code 28 = .ok (.iconst 4, 1) := by decide +kernel
theorem s73_28 {v0 v1 v2 v3 v4 v5 : Value}  {st : List Value} {im : IM} {rm : RM}  : ev 73 28 [v0, v1, v2, v3, v4, v5] st im rm = ev 73 29 [v0, v1, v2, v3, v4, v5] (.int (nI 4) :: st) (im) (rm) := ev_iconst pm_m73 d73_28 rfl rfl
theorem d73_29 : decode prog_1_method_34_code 29 = .ok (.irem, 1) := by decide +kernel
theorem s73_29 {v0 v1 v2 v3 v4 v5 : Value} {x : Int32} {y : Int32} {st : List Value} {im : IM} {rm : RM} (h0 : ¬ y = 0) : ev 73 29 [v0, v1, v2, v3, v4, v5] (.int y :: .int x :: st) im rm = ev 73 30 [v0, v1, v2, v3, v4, v5] (.int (x - x / y * y) :: st) (im) (rm) := ev_irem pm_m73 d73_29 h0 rfl
theorem d73_30 : decode prog_1_method_34_code 30 = .ok (.invokevirtual 302, 3) := by decide +kernel
theorem s73_30 {v0 v1 v2 v3 v4 v5 : Value} {a : Nat} {p1 : Int32} {im : IM} {rm : RM} (hk : kd a = 17) : ev 73 30 [v0, v1, v2, v3, v4, v5] [.int p1, .ref a] im rm = (ev 101 0 [.ref a, .int p1, pm_u, pm_u, pm_u, pm_u] [] im rm).bind (fun r => ev 73 33 [v0, v1, v2, v3, v4, v5] (r.1.toList ++ []) r.2.1 r.2.2) := ev_callV pm_m73 d73_30 l7_302 rfl pm_m101 (by decide) hk rfl ⟨rfl, rfl⟩ rfl rfl
theorem d73_33 : decode prog_1_method_34_code 33 = .ok (.lstore 4, 2) := by decide +kernel
theorem s73_33 {v0 v1 v2 v4 v5 : Value} {x1 : Int64} {st : List Value} {im : IM} {rm : RM}  : ev 73 33 [v0, v1, v2, pm_u, v4, v5] (.long x1 :: st) im rm = ev 73 35 [v0, v1, v2, pm_u, .long x1, pm_u] st (im) (rm) := ev_lstore pm_m73 d73_33 (Nat.le_of_ble_eq_true rfl) rfl rfl
theorem d73_35 : decode prog_1_method_34_code 35 = .ok (.lload_n 2, 1) := by decide +kernel
theorem s73_35 {v0 v1 v3 v4 v5 : Value} {l1 : Int64} {st : List Value} {im : IM} {rm : RM}  : ev 73 35 [v0, v1, .long l1, v3, v4, v5] st im rm = ev 73 36 [v0, v1, .long l1, v3, v4, v5] (.long l1 :: st) (im) (rm) := ev_lload_n pm_m73 d73_35 rfl rfl
theorem d73_36 : decode prog_1_method_34_code 36 = .ok (.aload_n 0, 1) := by decide +kernel
theorem s73_36 {v1 v2 v3 v4 v5 : Value} {l1 : Nat} {st : List Value} {im : IM} {rm : RM}  : ev 73 36 [.ref l1, v1, v2, v3, v4, v5] st im rm = ev 73 37 [.ref l1, v1, v2, v3, v4, v5] (.ref l1 :: st) (im) (rm) := ev_aload_n pm_m73 d73_36 rfl rfl
theorem d73_37 : decode prog_1_method_34_code 37 = .ok (.lload_n 2, 1) := by decide +kernel
theorem s73_37 {v0 v1 v3 v4 v5 : Value} {l1 : Int64} {st : List Value} {im : IM} {rm : RM}  : ev 73 37 [v0, v1, .long l1, v3, v4, v5] st im rm = ev 73 38 [v0, v1, .long l1, v3, v4, v5] (.long l1 :: st) (im) (rm) := ev_lload_n pm_m73 d73_37 rfl rfl
theorem d73_38 : decode prog_1_method_34_code 38 = .ok (.invokevirtual 306, 3) := by decide +kernel
theorem s73_38 {v0 v1 v2 v3 v4 v5 : Value} {a : Nat} {p1 : Int64} {r2 : Int64} {im : IM} {rm : RM} (hk : kd a = 17) : ev 73 38 [v0, v1, v2, v3, v4, v5] [.long p1, .ref a, .long r2] im rm = (ev 102 0 [.ref a, .long p1, pm_u] [] im rm).bind (fun r => ev 73 41 [v0, v1, v2, v3, v4, v5] (r.1.toList ++ [.long r2]) r.2.1 r.2.2) := ev_callV pm_m73 d73_38 l7_306 rfl pm_m102 (by decide) hk rfl ⟨rfl, rfl⟩ rfl rfl
theorem d73_41 : decode prog_1_method_34_code 41 = .ok (.lsub, 1) := by decide +kernel
theorem s73_41 {v0 v1 v2 v3 v4 v5 : Value} {x : Int64} {y : Int64} {st : List Value} {im : IM} {rm : RM}  : ev 73 41 [v0, v1, v2, v3, v4, v5] (.long y :: .long x :: st) im rm = ev 73 42 [v0, v1, v2, v3, v4, v5] (.long (x - y) :: st) (im) (rm) := ev_lsub pm_m73 d73_41 rfl
theorem d73_42 : decode prog_1_method_34_code 42 = .ok (.aload_n 0, 1) := by decide +kernel
theorem s73_42 {v1 v2 v3 v4 v5 : Value} {l1 : Nat} {st : List Value} {im : IM} {rm : RM}  : ev 73 42 [.ref l1, v1, v2, v3, v4, v5] st im rm = ev 73 43 [.ref l1, v1, v2, v3, v4, v5] (.ref l1 :: st) (im) (rm) := ev_aload_n pm_m73 d73_42 rfl rfl
theorem d73_43 : decode prog_1_method_34_code 43 = .ok (.lload 4, 2) := by decide +kernel
theorem s73_43 {v0 v1 v2 v3 v5 : Value} {l1 : Int64} {st : List Value} {im : IM} {rm : RM}  : ev 73 43 [v0, v1, v2, v3, .long l1, v5] st im rm = ev 73 45 [v0, v1, v2, v3, .long l1, v5] (.long l1 :: st) (im) (rm) := ev_lload pm_m73 d73_43 rfl rfl
theorem d73_45 : decode prog_1_method_34_code 45 = .ok (.invokevirtual 306, 3) := by decide +kernel
theorem s73_45 {v0 v1 v2 v3 v4 v5 : Value} {a : Nat} {p1 : Int64} {r2 : Int64} {im : IM} {rm : RM} (hk : kd a = 17) : ev 73 45 [v0, v1, v2, v3, v4, v5] [.long p1, .ref a, .long r2] im rm = (ev 102 0 [.ref a, .long p1, pm_u] [] im rm).bind (fun r => ev 73 48 [v0, v1, v2, v3, v4, v5] (r.1.toList ++ [.long r2]) r.2.1 r.2.2) := ev_callV pm_m73 d73_45 l7_306 rfl pm_m102 (by decide) hk rfl ⟨rfl, rfl⟩ rfl rfl
theorem d73_48 : decode prog_1_method_34_code 48 = .ok (.ladd, 1) := by decide +kernel
theorem s73_48 {v0 v1 v2 v3 v4 v5 : Value} {x : Int64} {y : Int64} {st : List Value} {im : IM} {rm : RM}  : ev 73 48 [v0, v1, v2, v3, v4, v5] (.long y :: .long x :: st) im rm = ev 73 49 [v0, v1, v2, v3, v4, v5] (.long (x + y) :: st) (im) (rm) := ev_ladd pm_m73 d73_48 rfl
theorem d73_49 : decode prog_1_method_34_code 49 = .ok (.lreturn, 1) := by decide +kernel
theorem s73_49 {v0 v1 v2 v3 v4 v5 : Value} {x : Int64} {im : IM} {rm : RM} : ev 73 49 [v0, v1, v2, v3, v4, v5] [.long x] im rm = some (some (.long x), im, rm) := ev_lreturn pm_m73 d73_49 rfl
