theorem d74_0 : decode prog_1_method_35_code 0 = .ok (.iload_n 1, 1) := by decide +kernel
theorem s74_0 {v0 : Value} {l1 : Int32} {st : List Value} {im : IM} {rm : RM}  : ev 74 0 [v0, .int l1] st im rm = ev 74 1 [v0, .int l1] (.int l1 :: st) (im) (rm) := ev_iload_n pm_m74 d74_0 rfl rfl
theorem d74_1 : decode prog_1_method_35_code 1 = .ok (.tableswitch 81 0 5 #[39, 44, 52, 60, 68, 76], 39) := by decide +kernel
theorem s74_1_0 {v0 v1 : Value}  {st : List Value} {im : IM} {rm : RM}  : ev 74 1 [v0, v1] (.int (nI 0) :: st) im rm = ev 74 40 [v0, pm_u] st (im) (rm) := ev_swI pm_m74 d74_1 (by decide) rfl rfl rfl
theorem s74_1_1 {v0 v1 : Value}  {st : List Value} {im : IM} {rm : RM}  : ev 74 1 [v0, v1] (.int (nI 1) :: st) im rm = ev 74 45 [v0, pm_u] st (im) (rm) := ev_swI pm_m74 d74_1 (by decide) rfl rfl rfl
theorem s74_1_2 {v0 v1 : Value}  {st : List Value} {im : IM} {rm : RM}  : ev 74 1 [v0, v1] (.int (nI 2) :: st) im rm = ev 74 53 [v0, pm_u] st (im) (rm) := ev_swI pm_m74 d74_1 (by decide) rfl rfl rfl
theorem s74_1_3 {v0 v1 : Value}  {st : List Value} {im : IM} {rm : RM}  : ev 74 1 [v0, v1] (.int (nI 3) :: st) im rm = ev 74 61 [v0, pm_u] st (im) (rm) := ev_swI pm_m74 d74_1 (by decide) rfl rfl rfl
theorem s74_1_4 {v0 v1 : Value}  {st : List Value} {im : IM} {rm : RM}  : ev 74 1 [v0, v1] (.int (nI 4) :: st) im rm = ev 74 69 [v0, pm_u] st (im) (rm) := ev_swI pm_m74 d74_1 (by decide) rfl rfl rfl
theorem s74_1_5 {v0 v1 : Value}  {st : List Value} {im : IM} {rm : RM}  : ev 74 1 [v0, v1] (.int (nI 5) :: st) im rm = ev 74 77 [v0, pm_u] st (im) (rm) := ev_swI pm_m74 d74_1 (by decide) rfl rfl rfl
theorem s74_1_o {v0 v1 : Value} {x : Int32} {st : List Value} {im : IM} {rm : RM} (h1 : x.toInt < 0 ∨ 5 < x.toInt) : ev 74 1 [v0, v1] (.int x :: st) im rm = ev 74 82 [pm_u, pm_u] st (im) (rm) := ev_swO pm_m74 d74_1 h1 rfl rfl
theorem d74_40 : decode prog_1_method_35_code 40 = .ok (.aload_n 0, 1) := by decide +kernel
theorem s74_40 {v1 : Value} {l1 : Nat} {st : List Value} {im : IM} {rm : RM}  : ev 74 40 [.ref l1, v1] st im rm = ev 74 41 [.ref l1, v1] (.ref l1 :: st) (im) (rm) := ev_aload_n pm_m74 d74_40 rfl rfl
theorem d74_41 : decode prog_1_method_35_code 41 = .ok (.getfield 66, 3) := by decide +kernel
theorem s74_41 {v0 v1 : Value} {a : Nat} {st : List Value} {im : IM} {rm : RM} (hk : kd a = 17) : ev 74 41 [v0, v1] (.ref a :: st) im rm = ev 74 44 [v0, v1] (.int (im a 10) :: st) (im) (rm) := ev_getI pm_m74 d74_41 f7_66 rfl hk rfl
theorem d74_44 : decode prog_1_method_35_code 44 = .ok (.ireturn, 1) := by decide +kernel
theorem s74_44 {v0 v1 : Value} {x : Int32} {im : IM} {rm : RM} : ev 74 44 [v0, v1] [.int x] im rm = some (some (.int x), im, rm) := ev_ireturn pm_m74 d74_44 rfl
theorem d74_45 : decode prog_1_method_35_code 45 = .ok (.aload_n 0, 1) := by decide +kernel
theorem s74_45 {v1 : Value} {l1 : Nat} {st : List Value} {im : IM} {rm : RM}  : ev 74 45 [.ref l1, v1] st im rm = ev 74 46 [.ref l1, v1] (.ref l1 :: st) (im) (rm) := ev_aload_n pm_m74 d74_45 rfl rfl
theorem d74_46 : decode prog_1_method_35_code 46 = .ok (.getfield 30, 3) := by decide +kernel
theorem s74_46 {v0 v1 : Value} {a : Nat} {st : List Value} {im : IM} {rm : RM} (hk : kd a = 17) : ev 74 46 [v0, v1] (.ref a :: st) im rm = ev 74 49 [v0, v1] (pm_ro (rm a 3) :: st) (im) (rm) := ev_getR pm_m74 d74_46 f7_30 rfl hk rfl
theorem d74_49 : decode prog_1_method_35_code 49 = .ok (.getfield 148, 3) := by decide +kernel
theorem s74_49 {v0 v1 : Value} {a : Nat} {st : List Value} {im : IM} {rm : RM} (hk : kd a = 16) : ev 74 49 [v0, v1] (.ref a :: st) im rm = ev 74 52 [v0, v1] (.int (im a 0) :: st) (im) (rm) := ev_getI pm_m74 d74_49 f7_148 rfl hk rfl
theorem d74_52 : decode prog_1_method_35_code 52 = .ok (.ireturn, 1) := by decide +kernel
theorem s74_52 {v0 v1 : Value} {x : Int32} {im : IM} {rm : RM} : ev 74 52 [v0, v1] [.int x] im rm = some (some (.int x), im, rm) := ev_ireturn pm_m74 d74_52 rfl
theorem d74_53 : decode prog_1_method_35_code 53 = .ok (.aload_n 0, 1) := by decide +kernel
theorem s74_53 {v1 : Value} {l1 : Nat} {st : List Value} {im : IM} {rm : RM}  : ev 74 53 [.ref l1, v1] st im rm = ev 74 54 [.ref l1, v1] (.ref l1 :: st) (im) (rm) := ev_aload_n pm_m74 d74_53 rfl rfl
theorem d74_54 : decode prog_1_method_35_code 54 = .ok (.getfield 55, 3) := by decide +kernel
theorem s74_54 {v0 v1 : Value} {a : Nat} {st : List Value} {im : IM} {rm : RM} (hk : kd a = 17) : ev 74 54 [v0, v1] (.ref a :: st) im rm = ev 74 57 [v0, v1] (pm_ro (rm a 8) :: st) (im) (rm) := ev_getR pm_m74 d74_54 f7_55 rfl hk rfl
theorem d74_57 : decode prog_1_method_35_code 57 = .ok (.getfield 220, 3) := by decide +kernel
theorem s74_57 {v0 v1 : Value} {a : Nat} {st : List Value} {im : IM} {rm : RM} (hk : kd a = 12) : ev 74 57 [v0, v1] (.ref a :: st) im rm = ev 74 60 [v0, v1] (.int (im a 0) :: st) (im) (rm) := ev_getI pm_m74 d74_57 f7_220 rfl hk rfl
theorem d74_60 : decode prog_1_method_35_code 60 = .ok (.ireturn, 1) := by decide +kernel
theorem s74_60 {v0 v1 : Value} {x : Int32} {im : IM} {rm : RM} : ev 74 60 [v0, v1] [.int x] im rm = some (some (.int x), im, rm) := ev_ireturn pm_m74 d74_60 rfl
theorem d74_61 : decode prog_1_method_35_code 61 = .ok (.aload_n 0, 1) := by decide +kernel
theorem s74_61 {v1 : Value} {l1 : Nat} {st : List Value} {im : IM} {rm : RM}  : ev 74 61 [.ref l1, v1] st im rm = ev 74 62 [.ref l1, v1] (.ref l1 :: st) (im) (rm) := ev_aload_n pm_m74 d74_61 rfl rfl
theorem d74_62 : decode prog_1_method_35_code 62 = .ok (.getfield 62, 3) := by decide +kernel
theorem s74_62 {v0 v1 : Value} {a : Nat} {st : List Value} {im : IM} {rm : RM} (hk : kd a = 17) : ev 74 62 [v0, v1] (.ref a :: st) im rm = ev 74 65 [v0, v1] (pm_ro (rm a 9) :: st) (im) (rm) := ev_getR pm_m74 d74_62 f7_62 rfl hk rfl
theorem d74_65 : decode prog_1_method_35_code 65 = .ok (.getfield 291, 3) := by decide +kernel
theorem s74_65 {v0 v1 : Value} {a : Nat} {st : List Value} {im : IM} {rm : RM} (hk : kd a = 15) : ev 74 65 [v0, v1] (.ref a :: st) im rm = ev 74 68 [v0, v1] (.int (im a 0) :: st) (im) (rm) := ev_getI pm_m74 d74_65 f7_291 rfl hk rfl
theorem d74_68 : decode prog_1_method_35_code 68 = .ok (.ireturn, 1) := by decide +kernel
theorem s74_68 {v0 v1 : Value} {x : Int32} {im : IM} {rm : RM} : ev 74 68 [v0, v1] [.int x] im rm = some (some (.int x), im, rm) := ev_ireturn pm_m74 d74_68 rfl
theorem d74_69 : decode prog_1_method_35_code 69 = .ok (.aload_n 0, 1) := by decide +kernel
theorem s74_69 {v1 : Value} {l1 : Nat} {st : List Value} {im : IM} {rm : RM}  : ev 74 69 [.ref l1, v1] st im rm = ev 74 70 [.ref l1, v1] (.ref l1 :: st) (im) (rm) := ev_aload_n pm_m74 d74_69 rfl rfl
theorem d74_70 : decode prog_1_method_35_code 70 = .ok (.getfield 62, 3) := by decide +kernel
theorem s74_70 {v0 v1 : Value} {a : Nat} {st : List Value} {im : IM} {rm : RM} (hk : kd a = 17) : ev 74 70 [v0, v1] (.ref a :: st) im rm = ev 74 73 [v0, v1] (pm_ro (rm a 9) :: st) (im) (rm) := ev_getR pm_m74 d74_70 f7_62 rfl hk rfl
theorem d74_73 : decode prog_1_method_35_code 73 = .ok (.invokevirtual 310, 3) := by decide +kernel
theorem s74_73 {v0 v1 : Value} {a : Nat} {im : IM} {rm : RM} (hk : kd a = 15) : ev 74 73 [v0, v1] [.ref a] im rm = (ev 23 0 [.ref a, pm_u, pm_u] [] im rm).bind (fun r => ev 74 76 [v0, v1] (r.1.toList ++ []) r.2.1 r.2.2) := ev_callV pm_m74 d74_73 l7_310 rfl pm_m23 (by decide) hk rfl ⟨rfl, rfl⟩ rfl rfl
theorem d74_76 : decode prog_1_method_35_code 76 = .ok (.ireturn, 1) := by decide +kernel
theorem s74_76 {v0 v1 : Value} {x : Int32} {im : IM} {rm : RM} : ev 74 76 [v0, v1] [.int x] im rm = some (some (.int x), im, rm) := ev_ireturn pm_m74 d74_76 rfl
theorem d74_77 : decode prog_1_method_35_code 77 = .ok (.aload_n 0, 1) := by decide +kernel
theorem s74_77 {v1 : Value} {l1 : Nat} {st : List Value} {im : IM} {rm : RM}  : ev 74 77 [.ref l1, v1] st im rm = ev 74 78 [.ref l1, v1] (.ref l1 :: st) (im) (rm) := ev_aload_n pm_m74 d74_77 rfl rfl
theorem d74_78 : decode prog_1_method_35_code 78 = .ok (.invokevirtual 313, 3) := by decide +kernel
theorem s74_78 {v0 v1 : Value} {a : Nat} {im : IM} {rm : RM} (hk : kd a = 17) : ev 74 78 [v0, v1] [.ref a] im rm = (ev 79 0 [.ref a, pm_u, pm_u] [] im rm).bind (fun r => ev 74 81 [v0, v1] (r.1.toList ++ []) r.2.1 r.2.2) := ev_callV pm_m74 d74_78 l7_313 rfl pm_m79 (by decide) hk rfl ⟨rfl, rfl⟩ rfl rfl
theorem d74_81 : decode prog_1_method_35_code 81 = .ok (.ireturn, 1) := by decide +kernel
theorem s74_81 {v0 v1 : Value} {x : Int32} {im : IM} {rm : RM} : ev 74 81 [v0, v1] [.int x] im rm = some (some (.int x), im, rm) := ev_ireturn pm_m74 d74_81 rfl
theorem d74_82 : decode prog_1_method_35_code 82 = .ok (.bipush (-3), 2) := by decide +kernel
theorem s74_82 {v0 v1 : Value}  {st : List Value} {im : IM} {rm : RM}  : ev 74 82 [v0, v1] st im rm = ev 74 84 [v0, v1] (.int ((-3 : Int32)) :: st) (im) (rm) := ev_bipush pm_m74 d74_82 rfl rfl
theorem d74_84 : decode prog_1_method_35_code 84 = .ok (.ireturn, 1) := by decide +kernel
theorem s74_84 {v0 v1 : Value} {x : Int32} {im : IM} {rm : RM} : ev 74 84 [v0, v1] [.int x] im rm = some (some (.int x), im, rm) := ev_ireturn pm_m74 d74_84 rfl
theorem d75_0 : decode prog_1_method_36_code 0 = .ok (.iload_n 0, 1) := by decide +kernel
theorem s75_0 {v1 : Value} {l1 : Int32} {st : List Value} {im : IM} {rm : RM}  : ev 75 0 [.int l1, v1] st im rm = ev 75 1 [.int l1, v1] (.int l1 :: st) (im) (rm) := ev_iload_n pm_m75 d75_0 rfl rfl
theorem d75_1 : decode prog_1_method_36_code 1 = .ok (.ifCond .lt 12, 3) := by decide +kernel
theorem s75_1 {v0 v1 : Value} {x : Int32} {st : List Value} {im : IM} {rm : RM} : ev 75 1 [v0, v1] (.int x :: st) im rm = if x < nI 0 then ev 75 13 [pm_u, pm_u] st im rm else ev 75 4 [v0, v1] st im rm := ev_if_lt (y := 0) pm_m75 d75_1 rfl rfl rfl
theorem d75_4 : decode prog_1_method_36_code 4 = .ok (.iload_n 0, 1) := by decide +kernel
theorem s75_4 {v1 : Value} {l1 : Int32} {st : List Value} {im : IM} {rm : RM}  : ev 75 4 [.int l1, v1] st im rm = ev 75 5 [.int l1, v1] (.int l1 :: st) (im) (rm) := ev_iload_n pm_m75 d75_4 rfl rfl
theorem d75_5 : decode prog_1_method_36_code 5 = .ok (.iload_n 1, 1) := by decide +kernel
theorem s75_5 {v0 : Value} {l1 : Int32} {st : List Value} {im : IM} {rm : RM}  : ev 75 5 [v0, .int l1] st im rm = ev 75 6 [v0, .int l1] (.int l1 :: st) (im) (rm) := ev_iload_n pm_m75 d75_5 rfl rfl
theorem d75_6 : decode prog_1_method_36_code 6 = .ok (.if_icmp .ge 7, 3) := by decide +kernel
theorem s75_6 {v0 v1 : Value} {x : Int32} {y : Int32} {st : List Value} {im : IM} {rm : RM} : ev 75 6 [v0, v1] (.int y :: .int x :: st) im rm = if y ≤ x then ev 75 13 [pm_u, pm_u] st im rm else ev 75 9 [v0, v1] st im rm := ev_icmp_ge pm_m75 d75_6 rfl rfl rfl
theorem d75_9 : decode prog_1_method_36_code 9 = .ok (.iconst 1, 1) := by decide +kernel
theorem s75_9 {v0 v1 : Value}  {st : List Value} {im : IM} {rm : RM}  : ev 75 9 [v0, v1] st im rm = ev 75 10 [v0, v1] (.int (nI 1) :: st) (im) (rm) := ev_iconst pm_m75 d75_9 rfl rfl
theorem d75_10 : decode prog_1_method_36_code 10 = .ok (.goto 4, 3) := by decide +kernel
theorem s75_10 {v0 v1 : Value}  {st : List Value} {im : IM} {rm : RM}  : ev 75 10 [v0, v1] st im rm = ev 75 14 [pm_u, pm_u] st (im) (rm) := ev_goto pm_m75 d75_10 rfl rfl
theorem d75_13 : decode prog_1_method_36_code 13 = .ok (.iconst 0, 1) := by decide +kernel
theorem s75_13 {v0 v1 : Value}  {st : List Value} {im : IM} {rm : RM}  : ev 75 13 [v0, v1] st im rm = ev 75 14 [pm_u, pm_u] (.int (nI 0) :: st) (im) (rm) := ev_iconst pm_m75 d75_13 rfl rfl
theorem d75_14 : decode prog_1_method_36_code 14 = .ok (.ireturn, 1) := by decide +kernel
theorem s75_14 {v0 v1 : Value} {x : Int32} {im : IM} {rm : RM} (hx : x = 0 ∨ x = 1) : ev 75 14 [v0, v1] [.int x] im rm = some (some (.int x), im, rm) := ev_zreturn pm_m75 d75_14 rfl hx
theorem d76_0 : decode prog_1_method_37_code 0 = .ok (.iload_n 0, 1) := by decide +kernel
theorem s76_0 {v1 : Value} {l1 : Int32} {st : List Value} {im : IM} {rm : RM}  : ev 76 0 [.int l1, v1] st im rm = ev 76 1 [.int l1, v1] (.int l1 :: st) (im) (rm) := ev_iload_n pm_m76 d76_0 rfl rfl
theorem d76_1 : decode prog_1_method_37_code 1 = .ok (.ifCond .lt 12, 3) := by decide +kernel
theorem s76_1 {v0 v1 : Value} {x : Int32} {st : List Value} {im : IM} {rm : RM} : ev 76 1 [v0, v1] (.int x :: st) im rm = if x < nI 0 then ev 76 13 [pm_u, pm_u] st im rm else ev 76 4 [v0, v1] st im rm := ev_if_lt (y := 0) pm_m76 d76_1 rfl rfl rfl
theorem d76_4 : decode prog_1_method_37_code 4 = .ok (.iload_n 0, 1) := by decide +kernel
theorem s76_4 {v1 : Value} {l1 : Int32} {st : List Value} {im : IM} {rm : RM}  : ev 76 4 [.int l1, v1] st im rm = ev 76 5 [.int l1, v1] (.int l1 :: st) (im) (rm) := ev_iload_n pm_m76 d76_4 rfl rfl
theorem d76_5 : decode prog_1_method_37_code 5 = .ok (.iload_n 1, 1) := by decide +kernel
theorem s76_5 {v0 : Value} {l1 : Int32} {st : List Value} {im : IM} {rm : RM}  : ev 76 5 [v0, .int l1] st im rm = ev 76 6 [v0, .int l1] (.int l1 :: st) (im) (rm) := ev_iload_n pm_m76 d76_5 rfl rfl
theorem d76_6 : decode prog_1_method_37_code 6 = .ok (.if_icmp .gt 7, 3) := by decide +kernel
theorem s76_6 {v0 v1 : Value} {x : Int32} {y : Int32} {st : List Value} {im : IM} {rm : RM} : ev 76 6 [v0, v1] (.int y :: .int x :: st) im rm = if y < x then ev 76 13 [pm_u, pm_u] st im rm else ev 76 9 [v0, v1] st im rm := ev_icmp_gt pm_m76 d76_6 rfl rfl rfl
theorem d76_9 : decode prog_1_method_37_code 9 = .ok (.iconst 1, 1) := by decide +kernel
theorem s76_9 {v0 v1 : Value}  {st : List Value} {im : IM} {rm : RM}  : ev 76 9 [v0, v1] st im rm = ev 76 10 [v0, v1] (.int (nI 1) :: st) (im) (rm) := ev_iconst pm_m76 d76_9 rfl rfl
theorem d76_10 : decode prog_1_method_37_code 10 = .ok (.goto 4, 3) := by decide +kernel
theorem s76_10 {v0 v1 : Value}  {st : List Value} {im : IM} {rm : RM}  : ev 76 10 [v0, v1] st im rm = ev 76 14 [pm_u, pm_u] st (im) (rm) := ev_goto pm_m76 d76_10 rfl rfl
theorem d76_13 : decode prog_1_method_37_code 13 = .ok (.iconst 0, 1) := by decide +kernel
theorem s76_13 {v0 v1 : Value}  {st : List Value} {im : IM} {rm : RM}  : ev 76 13 [v0, v1] st im rm = ev 76 14 [pm_u, pm_u] (.int (nI 0) :: st) (im) (rm) := ev_iconst pm_m76 d76_13 rfl rfl
theorem d76_14 : decode prog_1_method_37_code 14 = .ok (.ireturn, 1) := by decide +kernel
theorem s76_14 {v0 v1 : Value} {x : Int32} {im : IM} {rm : RM} (hx : x = 0 ∨ x = 1) : ev 76 14 [v0, v1] [.int x] im rm = some (some (.int x), im, rm) := ev_zreturn pm_m76 d76_14 rfl hx
theorem d77_0 : decode prog_1_method_38_code 0 = .ok (.iload_n 1, 1) := by decide +kernel
theorem s77_0 {v0 v2 : Value} {l1 : Int32} {st : List Value} {im : IM} {rm : RM}  : ev 77 0 [v0, .int l1, v2] st im rm = ev 77 1 [v0, .int l1, v2] (.int l1 :: st) (im) (rm) := ev_iload_n pm_m77 d77_0 rfl rfl
theorem d77_1 : decode prog_1_method_38_code 1 = .ok (.bipush 6, 2) := by decide +kernel
theorem s77_1 {v0 v1 v2 : Value}  {st : List Value} {im : IM} {rm : RM}  : ev 77 1 [v0, v1, v2] st im rm = ev 77 3 [v0, v1, v2] (.int (nI 6) :: st) (im) (rm) := ev_bipush pm_m77 d77_1 rfl rfl
theorem d77_3 : decode prog_1_method_38_code 3 = .ok (.invokestatic 109, 3) := by decide +kernel
theorem s77_3 {v0 v1 v2 : Value} {p1 : Int32} {p2 : Int32} {im : IM} {rm : RM}  : ev 77 3 [v0, v1, v2] [.int p2, .int p1] im rm = (ev 75 0 [.int p1, .int p2] [] im rm).bind (fun r => ev 77 6 [v0, v1, v2] (r.1.toList ++ []) r.2.1 r.2.2) := ev_callS pm_m77 d77_3 (by decide) l7_109 rfl pm_m75 rfl ⟨rfl, rfl⟩ rfl rfl
theorem d77_6 : decode prog_1_method_38_code 6 = .ok (.ifCond .eq 23, 3) := by decide +kernel
theorem s77_6 {v0 v1 v2 : Value} {x : Int32} {st : List Value} {im : IM} {rm : RM} : ev 77 6 [v0, v1, v2] (.int x :: st) im rm = if x = nI 0 then ev 77 29 [pm_u, pm_u, pm_u] st im rm else ev 77 9 [v0, v1, v2] st im rm := ev_if_eq (y := 0) pm_m77 d77_6 rfl rfl rfl
theorem d77_9 : decode prog_1_method_38_code 9 = .ok (.iload_n 2, 1) := by decide +kernel
theorem s77_9 {v0 v1 : Value} {l1 : Int32} {st : List Value} {im : IM} {rm : RM}  : ev 77 9 [v0, v1, .int l1] st im rm = ev 77 10 [v0, v1, .int l1] (.int l1 :: st) (im) (rm) := ev_iload_n pm_m77 d77_9 rfl rfl
theorem d77_10 : decode prog_1_method_38_code 10 = .ok (.aload_n 0, 1) := by decide +kernel
theorem s77_10 {v1 v2 : Value} {l1 : Nat} {st : List Value} {im : IM} {rm : RM}  : ev 77 10 [.ref l1, v1, v2] st im rm = ev 77 11 [.ref l1, v1, v2] (.ref l1 :: st) (im) (rm) := ev_aload_n pm_m77 d77_10 rfl rfl
theorem d77_11 : decode prog_1_method_38_code 11 = .ok (.getfield 11, 3) := by decide +kernel
theorem s77_11 {v0 v1 v2 : Value} {a : Nat} {st : List Value} {im : IM} {rm : RM} (hk : kd a = 17) : ev 77 11 [v0, v1, v2] (.ref a :: st) im rm = ev 77 14 [v0, v1, v2] (pm_ro (rm a 0) :: st) (im) (rm) := ev_getR pm_m77 d77_11 f7_11 rfl hk rfl
theorem d77_14 : decode prog_1_method_38_code 14 = .ok (.iload_n 1, 1) := by decide +kernel
theorem s77_14 {v0 v2 : Value} {l1 : Int32} {st : List Value} {im : IM} {rm : RM}  : ev 77 14 [v0, .int l1, v2] st im rm = ev 77 15 [v0, .int l1, v2] (.int l1 :: st) (im) (rm) := ev_iload_n pm_m77 d77_14 rfl rfl
theorem d77_15 : decode prog_1_method_38_code 15 = .ok (.aaload, 1) := by decide +kernel
theorem s77_15 {v0 v1 v2 : Value} {a : Nat} {i : Int32} {st : List Value} {im : IM} {rm : RM} (hk : 2 ≤ kd a ∧ kd a ≤ 5) (hi : pm_in i (ln a) = true) : ev 77 15 [v0, v1, v2] (.int i :: .ref a :: st) im rm = ev 77 16 [v0, v1, v2] (pm_ro (rm a i.toNatClampNeg) :: st) (im) (rm) := ev_aald pm_m77 d77_15 hk hi rfl
theorem d77_16 : decode prog_1_method_38_code 16 = .ok (.getfield 120, 3) := by decide +kernel
theorem s77_16 {v0 v1 v2 : Value} {a : Nat} {st : List Value} {im : IM} {rm : RM} (hk : kd a = 10) : ev 77 16 [v0, v1, v2] (.ref a :: st) im rm = ev 77 19 [v0, v1, v2] (.int (im a 2) :: st) (im) (rm) := ev_getI pm_m77 d77_16 f7_120 rfl hk rfl
theorem d77_19 : decode prog_1_method_38_code 19 = .ok (.invokestatic 109, 3) := by decide +kernel
theorem s77_19 {v0 v1 v2 : Value} {p1 : Int32} {p2 : Int32} {im : IM} {rm : RM}  : ev 77 19 [v0, v1, v2] [.int p2, .int p1] im rm = (ev 75 0 [.int p1, .int p2] [] im rm).bind (fun r => ev 77 22 [v0, v1, v2] (r.1.toList ++ []) r.2.1 r.2.2) := ev_callS pm_m77 d77_19 (by decide) l7_109 rfl pm_m75 rfl ⟨rfl, rfl⟩ rfl rfl
theorem d77_22 : decode prog_1_method_38_code 22 = .ok (.ifCond .eq 7, 3) := by decide +kernel
theorem s77_22 {v0 v1 v2 : Value} {x : Int32} {st : List Value} {im : IM} {rm : RM} : ev 77 22 [v0, v1, v2] (.int x :: st) im rm = if x = nI 0 then ev 77 29 [pm_u, pm_u, pm_u] st im rm else ev 77 25 [v0, v1, v2] st im rm := ev_if_eq (y := 0) pm_m77 d77_22 rfl rfl rfl
theorem d77_25 : decode prog_1_method_38_code 25 = .ok (.iconst 1, 1) := by decide +kernel
theorem s77_25 {v0 v1 v2 : Value}  {st : List Value} {im : IM} {rm : RM}  : ev 77 25 [v0, v1, v2] st im rm = ev 77 26 [v0, v1, v2] (.int (nI 1) :: st) (im) (rm) := ev_iconst pm_m77 d77_25 rfl rfl
theorem d77_26 : decode prog_1_method_38_code 26 = .ok (.goto 4, 3) := by decide +kernel
theorem s77_26 {v0 v1 v2 : Value}  {st : List Value} {im : IM} {rm : RM}  : ev 77 26 [v0, v1, v2] st im rm = ev 77 30 [pm_u, pm_u, pm_u] st (im) (rm) := ev_goto pm_m77 d77_26 rfl rfl
theorem d77_29 : decode prog_1_method_38_code 29 = .ok (.iconst 0, 1) := by decide +kernel
theorem s77_29 {v0 v1 v2 : Value}  {st : List Value} {im : IM} {rm : RM}  : ev 77 29 [v0, v1, v2] st im rm = ev 77 30 [pm_u, pm_u, pm_u] (.int (nI 0) :: st) (im) (rm) := ev_iconst pm_m77 d77_29 rfl rfl
theorem d77_30 : decode prog_1_method_38_code 30 = .ok (.ireturn, 1) := by decide +kernel
theorem s77_30 {v0 v1 v2 : Value} {x : Int32} {im : IM} {rm : RM} (hx : x = 0 ∨ x = 1) : ev 77 30 [v0, v1, v2] [.int x] im rm = some (some (.int x), im, rm) := ev_zreturn pm_m77 d77_30 rfl hx
theorem d78_0 : decode prog_1_method_39_code 0 = .ok (.aload_n 0, 1) := by decide +kernel
theorem s78_0 {v1 v2 v3 : Value} {l1 : Nat} {st : List Value} {im : IM} {rm : RM}  : ev 78 0 [.ref l1, v1, v2, v3] st im rm = ev 78 1 [.ref l1, v1, v2, v3] (.ref l1 :: st) (im) (rm) := ev_aload_n pm_m78 d78_0 rfl rfl
theorem d78_1 : decode prog_1_method_39_code 1 = .ok (.iload_n 1, 1) := by decide +kernel
theorem s78_1 {v0 v2 v3 : Value} {l1 : Int32} {st : List Value} {im : IM} {rm : RM}  : ev 78 1 [v0, .int l1, v2, v3] st im rm = ev 78 2 [v0, .int l1, v2, v3] (.int l1 :: st) (im) (rm) := ev_iload_n pm_m78 d78_1 rfl rfl
theorem d78_2 : decode prog_1_method_39_code 2 = .ok (.iaload, 1) := by decide +kernel
theorem s78_2 {v0 v1 v2 v3 : Value} {a : Nat} {i : Int32} {st : List Value} {im : IM} {rm : RM} (hk : kd a = 0) (hi : pm_in i (ln a) = true) : ev 78 2 [v0, v1, v2, v3] (.int i :: .ref a :: st) im rm = ev 78 3 [v0, v1, v2, v3] (.int (im a i.toNatClampNeg) :: st) (im) (rm) := ev_iald pm_m78 d78_2 hk hi rfl
theorem d78_3 : decode prog_1_method_39_code 3 = .ok (.istore_n 3, 1) := by decide +kernel
theorem s78_3 {v0 v1 v3 : Value} {l1 : Int32} {x2 : Int32} {st : List Value} {im : IM} {rm : RM}  : ev 78 3 [v0, v1, .int l1, v3] (.int x2 :: st) im rm = ev 78 4 [v0, v1, .int l1, .int x2] st (im) (rm) := ev_istore_n pm_m78 d78_3 (Nat.le_of_ble_eq_true rfl) rfl rfl
theorem d78_4 : decode prog_1_method_39_code 4 = .ok (.aload_n 0, 1) := by decide +kernel
theorem s78_4 {v1 v2 v3 : Value} {l1 : Nat} {st : List Value} {im : IM} {rm : RM}  : ev 78 4 [.ref l1, v1, v2, v3] st im rm = ev 78 5 [.ref l1, v1, v2, v3] (.ref l1 :: st) (im) (rm) := ev_aload_n pm_m78 d78_4 rfl rfl
theorem d78_5 : decode prog_1_method_39_code 5 = .ok (.iload_n 1, 1) := by decide +kernel
theorem s78_5 {v0 v2 v3 : Value} {l1 : Int32} {st : List Value} {im : IM} {rm : RM}  : ev 78 5 [v0, .int l1, v2, v3] st im rm = ev 78 6 [v0, .int l1, v2, v3] (.int l1 :: st) (im) (rm) := ev_iload_n pm_m78 d78_5 rfl rfl
theorem d78_6 : decode prog_1_method_39_code 6 = .ok (.iload_n 2, 1) := by decide +kernel
theorem s78_6 {v0 v1 v3 : Value} {l1 : Int32} {st : List Value} {im : IM} {rm : RM}  : ev 78 6 [v0, v1, .int l1, v3] st im rm = ev 78 7 [v0, v1, .int l1, v3] (.int l1 :: st) (im) (rm) := ev_iload_n pm_m78 d78_6 rfl rfl
theorem d78_7 : decode prog_1_method_39_code 7 = .ok (.iastore, 1) := by decide +kernel
theorem s78_7 {v0 v1 v2 v3 : Value} {a : Nat} {i : Int32} {v : Int32} {st : List Value} {im : IM} {rm : RM} (hk : kd a = 0) (hi : pm_in i (ln a) = true) : ev 78 7 [v0, v1, v2, v3] (.int v :: .int i :: .ref a :: st) im rm = ev 78 8 [v0, v1, v2, v3] st (pm_w2 im a i.toNatClampNeg v) (rm) := ev_iast pm_m78 d78_7 hk hi rfl
theorem d78_8 : decode prog_1_method_39_code 8 = .ok (.iload_n 3, 1) := by decide +kernel
theorem s78_8 {v0 v1 v2 : Value} {l1 : Int32} {st : List Value} {im : IM} {rm : RM}  : ev 78 8 [v0, v1, v2, .int l1] st im rm = ev 78 9 [v0, v1, v2, .int l1] (.int l1 :: st) (im) (rm) := ev_iload_n pm_m78 d78_8 rfl rfl
theorem d78_9 : decode prog_1_method_39_code 9 = .ok (.ireturn, 1) := by decide +kernel
theorem s78_9 {v0 v1 v2 v3 : Value} {x : Int32} {im : IM} {rm : RM} : ev 78 9 [v0, v1, v2, v3] [.int x] im rm = some (some (.int x), im, rm) := ev_ireturn pm_m78 d78_9 rfl
theorem d79_0 : decode prog_1_method_40_code 0 = .ok (.iconst 0, 1) := by decide +kernel
theorem s79_0 {v0 v1 v2 : Value}  {st : List Value} {im : IM} {rm : RM}  : ev 79 0 [v0, v1, v2] st im rm = ev 79 1 [v0, v1, v2] (.int (nI 0) :: st) (im) (rm) := ev_iconst pm_m79 d79_0 rfl rfl
theorem d79_1 : decode prog_1_method_40_code 1 = .ok (.istore_n 1, 1) := by decide +kernel
theorem s79_1 {v1 v2 : Value} {l1 : Nat} {x2 : Int32} {st : List Value} {im : IM} {rm : RM}  : ev 79 1 [.ref l1, v1, v2] (.int x2 :: st) im rm = ev 79 2 [.ref l1, .int x2, v2] st (im) (rm) := ev_istore_n pm_m79 d79_1 (Nat.le_of_ble_eq_true rfl) rfl rfl
theorem d79_2 : decode prog_1_method_40_code 2 = .ok (.iconst 0, 1) := by decide +kernel
theorem s79_2 {v0 v1 v2 : Value}  {st : List Value} {im : IM} {rm : RM}  : ev 79 2 [v0, v1, v2] st im rm = ev 79 3 [v0, v1, v2] (.int (nI 0) :: st) (im) (rm) := ev_iconst pm_m79 d79_2 rfl rfl
theorem d79_3 : decode prog_1_method_40_code 3 = .ok (.istore_n 2, 1) := by decide +kernel
theorem s79_3 {v0 v2 : Value} {l1 : Int32} {x2 : Int32} {st : List Value} {im : IM} {rm : RM}  : ev 79 3 [v0, .int l1, v2] (.int x2 :: st) im rm = ev 79 4 [v0, .int l1, .int x2] st (im) (rm) := ev_istore_n pm_m79 d79_3 (Nat.le_of_ble_eq_true rfl) rfl rfl
theorem d79_4 : decode prog_1_method_40_code 4 = .ok (.iload_n 2, 1) := by decide +kernel
theorem s79_4 {v0 v1 : Value} {l1 : Int32} {st : List Value} {im : IM} {rm : RM}  : ev 79 4 [v0, v1, .int l1] st im rm = ev 79 5 [v0, v1, .int l1] (.int l1 :: st) (im) (rm) := ev_iload_n pm_m79 d79_4 rfl rfl
theorem d79_5 : decode prog_1_method_40_code 5 = .ok (.bipush 6, 2) := by decide +kernel
theorem s79_5 {v0 v1 v2 : Value}  {st : List Value} {im : IM} {rm : RM}  : ev 79 5 [v0, v1, v2] st im rm = ev 79 7 [v0, v1, v2] (.int (nI 6) :: st) (im) (rm) := ev_bipush pm_m79 d79_5 rfl rfl
theorem d79_7 : decode prog_1_method_40_code 7 = .ok (.if_icmp .ge 21, 3) := by decide +kernel
theorem s79_7 {v0 v1 v2 : Value} {x : Int32} {y : Int32} {st : List Value} {im : IM} {rm : RM} : ev 79 7 [v0, v1, v2] (.int y :: .int x :: st) im rm = if y ≤ x then ev 79 28 [pm_u, v1, pm_u] st im rm else ev 79 10 [v0, v1, v2] st im rm := ev_icmp_ge pm_m79 d79_7 rfl rfl rfl
theorem d79_10 : decode prog_1_method_40_code 10 = .ok (.iload_n 1, 1) := by decide +kernel
theorem s79_10 {v0 v2 : Value} {l1 : Int32} {st : List Value} {im : IM} {rm : RM}  : ev 79 10 [v0, .int l1, v2] st im rm = ev 79 11 [v0, .int l1, v2] (.int l1 :: st) (im) (rm) := ev_iload_n pm_m79 d79_10 rfl rfl
theorem d79_11 : decode prog_1_method_40_code 11 = .ok (.aload_n 0, 1) := by decide +kernel
theorem s79_11 {v1 v2 : Value} {l1 : Nat} {st : List Value} {im : IM} {rm : RM}  : ev 79 11 [.ref l1, v1, v2] st im rm = ev 79 12 [.ref l1, v1, v2] (.ref l1 :: st) (im) (rm) := ev_aload_n pm_m79 d79_11 rfl rfl
theorem d79_12 : decode prog_1_method_40_code 12 = .ok (.getfield 11, 3) := by decide +kernel
theorem s79_12 {v0 v1 v2 : Value} {a : Nat} {st : List Value} {im : IM} {rm : RM} (hk : kd a = 17) : ev 79 12 [v0, v1, v2] (.ref a :: st) im rm = ev 79 15 [v0, v1, v2] (pm_ro (rm a 0) :: st) (im) (rm) := ev_getR pm_m79 d79_12 f7_11 rfl hk rfl
theorem d79_15 : decode prog_1_method_40_code 15 = .ok (.iload_n 2, 1) := by decide +kernel
theorem s79_15 {v0 v1 : Value} {l1 : Int32} {st : List Value} {im : IM} {rm : RM}  : ev 79 15 [v0, v1, .int l1] st im rm = ev 79 16 [v0, v1, .int l1] (.int l1 :: st) (im) (rm) := ev_iload_n pm_m79 d79_15 rfl rfl
theorem d79_16 : decode prog_1_method_40_code 16 = .ok (.aaload, 1) := by decide +kernel
theorem s79_16 {v0 v1 v2 : Value} {a : Nat} {i : Int32} {st : List Value} {im : IM} {rm : RM} (hk : 2 ≤ kd a ∧ kd a ≤ 5) (hi : pm_in i (ln a) = true) : ev 79 16 [v0, v1, v2] (.int i :: .ref a :: st) im rm = ev 79 17 [v0, v1, v2] (pm_ro (rm a i.toNatClampNeg) :: st) (im) (rm) := ev_aald pm_m79 d79_16 hk hi rfl
theorem d79_17 : decode prog_1_method_40_code 17 = .ok (.getfield 120, 3) := by decide +kernel
theorem s79_17 {v0 v1 v2 : Value} {a : Nat} {st : List Value} {im : IM} {rm : RM} (hk : kd a = 10) : ev 79 17 [v0, v1, v2] (.ref a :: st) im rm = ev 79 20 [v0, v1, v2] (.int (im a 2) :: st) (im) (rm) := ev_getI pm_m79 d79_17 f7_120 rfl hk rfl
theorem d79_20 : decode prog_1_method_40_code 20 = .ok (.iadd, 1) := by decide +kernel
theorem s79_20 {v0 v1 v2 : Value} {x : Int32} {y : Int32} {st : List Value} {im : IM} {rm : RM}  : ev 79 20 [v0, v1, v2] (.int y :: .int x :: st) im rm = ev 79 21 [v0, v1, v2] (.int (x + y) :: st) (im) (rm) := ev_iadd pm_m79 d79_20 rfl
theorem d79_21 : decode prog_1_method_40_code 21 = .ok (.istore_n 1, 1) := by decide +kernel
theorem s79_21 {v1 v2 : Value} {l1 : Nat} {x2 : Int32} {st : List Value} {im : IM} {rm : RM}  : ev 79 21 [.ref l1, v1, v2] (.int x2 :: st) im rm = ev 79 22 [.ref l1, .int x2, v2] st (im) (rm) := ev_istore_n pm_m79 d79_21 (Nat.le_of_ble_eq_true rfl) rfl rfl
theorem d79_22 : decode prog_1_method_40_code 22 = .ok (.iinc 2 1, 3) := by decide +kernel
theorem s79_22 {v0 : Value} {l1 : Int32} {l2 : Int32} {st : List Value} {im : IM} {rm : RM}  : ev 79 22 [v0, .int l1, .int l2] st im rm = ev 79 25 [v0, .int l1, .int (l2 + nI 1)] st (im) (rm) := ev_iinc pm_m79 d79_22 rfl rfl rfl rfl
theorem d79_25 : decode prog_1_method_40_code 25 = .ok (.goto (-21), 3) := by decide +kernel
theorem s79_25 {v0 v1 v2 : Value}  {st : List Value} {im : IM} {rm : RM}  : ev 79 25 [v0, v1, v2] st im rm = ev 79 4 [v0, v1, v2] st (im) (rm) := ev_goto pm_m79 d79_25 rfl rfl
theorem d79_28 : decode prog_1_method_40_code 28 = .ok (.iload_n 1, 1) := by decide +kernel
theorem s79_28 {v0 v2 : Value} {l1 : Int32} {st : List Value} {im : IM} {rm : RM}  : ev 79 28 [v0, .int l1, v2] st im rm = ev 79 29 [v0, .int l1, v2] (.int l1 :: st) (im) (rm) := ev_iload_n pm_m79 d79_28 rfl rfl
theorem d79_29 : decode prog_1_method_40_code 29 = .ok (.ireturn, 1) := by decide +kernel
theorem s79_29 {v0 v1 v2 : Value} {x : Int32} {im : IM} {rm : RM} : ev 79 29 [v0, v1, v2] [.int x] im rm = some (some (.int x), im, rm) := ev_ireturn pm_m79 d79_29 rfl
theorem d80_0 : decode prog_1_method_41_code 0 = .ok (.aload_n 0, 1) := by decide +kernel
theorem s80_0 {v1 v2 v3 v4 v5 v6 v7 v8 v9 v10 : Value} {l1 : Nat} {st : List Value} {im : IM} {rm : RM}  : ev 80 0 [.ref l1, v1, v2, v3, v4, v5, v6, v7, v8, v9, v10] st im rm = ev 80 1 [.ref l1, v1, v2, v3, v4, v5, v6, v7, v8, v9, v10] (.ref l1 :: st) (im) (rm) := ev_aload_n pm_m80 d80_0 rfl rfl
theorem d80_1 : decode prog_1_method_41_code 1 = .ok (.getfield 17, 3) := by decide +kernel
theorem s80_1 {v0 v1 v2 v3 v4 v5 v6 v7 v8 v9 v10 : Value} {a : Nat} {st : List Value} {im : IM} {rm : RM} (hk : kd a = 17) : ev 80 1 [v0, v1, v2, v3, v4, v5, v6, v7, v8, v9, v10] (.ref a :: st) im rm = ev 80 4 [v0, v1, v2, v3, v4, v5, v6, v7, v8, v9, v10] (pm_ro (rm a 1) :: st) (im) (rm) := ev_getR pm_m80 d80_1 f7_17 rfl hk rfl
theorem d80_4 : decode prog_1_method_41_code 4 = .ok (.iload_n 1, 1) := by decide +kernel
theorem s80_4 {v0 v2 v3 v4 v5 v6 v7 v8 v9 v10 : Value} {l1 : Int32} {st : List Value} {im : IM} {rm : RM}  : ev 80 4 [v0, .int l1, v2, v3, v4, v5, v6, v7, v8, v9, v10] st im rm = ev 80 5 [v0, .int l1, v2, v3, v4, v5, v6, v7, v8, v9, v10] (.int l1 :: st) (im) (rm) := ev_iload_n pm_m80 d80_4 rfl rfl
theorem d80_5 : decode prog_1_method_41_code 5 = .ok (.aaload, 1) := by decide +kernel
theorem s80_5 {v0 v1 v2 v3 v4 v5 v6 v7 v8 v9 v10 : Value} {a : Nat} {i : Int32} {st : List Value} {im : IM} {rm : RM} (hk : 2 ≤ kd a ∧ kd a ≤ 5) (hi : pm_in i (ln a) = true) : ev 80 5 [v0, v1, v2, v3, v4, v5, v6, v7, v8, v9, v10] (.int i :: .ref a :: st) im rm = ev 80 6 [v0, v1, v2, v3, v4, v5, v6, v7, v8, v9, v10] (pm_ro (rm a i.toNatClampNeg) :: st) (im) (rm) := ev_aald pm_m80 d80_5 hk hi rfl
theorem d80_6 : decode prog_1_method_41_code 6 = .ok (.astore_n 3, 1) := by decide +kernel
theorem s80_6 {v0 v1 v3 v4 v5 v6 v7 v8 v9 v10 : Value} {l1 : Int32} {x2 : Nat} {st : List Value} {im : IM} {rm : RM}  : ev 80 6 [v0, v1, .int l1, v3, v4, v5, v6, v7, v8, v9, v10] (.ref x2 :: st) im rm = ev 80 7 [v0, v1, .int l1, .ref x2, v4, v5, v6, v7, v8, v9, v10] st (im) (rm) := ev_astore_n pm_m80 d80_6 (Nat.le_of_ble_eq_true rfl) rfl rfl
theorem d80_7 : decode prog_1_method_41_code 7 = .ok (.aload_n 0, 1) := by decide +kernel
theorem s80_7 {v1 v2 v3 v4 v5 v6 v7 v8 v9 v10 : Value} {l1 : Nat} {st : List Value} {im : IM} {rm : RM}  : ev 80 7 [.ref l1, v1, v2, v3, v4, v5, v6, v7, v8, v9, v10] st im rm = ev 80 8 [.ref l1, v1, v2, v3, v4, v5, v6, v7, v8, v9, v10] (.ref l1 :: st) (im) (rm) := ev_aload_n pm_m80 d80_7 rfl rfl
theorem d80_8 : decode prog_1_method_41_code 8 = .ok (.getfield 11, 3) := by decide +kernel
theorem s80_8 {v0 v1 v2 v3 v4 v5 v6 v7 v8 v9 v10 : Value} {a : Nat} {st : List Value} {im : IM} {rm : RM} (hk : kd a = 17) : ev 80 8 [v0, v1, v2, v3, v4, v5, v6, v7, v8, v9, v10] (.ref a :: st) im rm = ev 80 11 [v0, v1, v2, v3, v4, v5, v6, v7, v8, v9, v10] (pm_ro (rm a 0) :: st) (im) (rm) := ev_getR pm_m80 d80_8 f7_11 rfl hk rfl
theorem d80_11 : decode prog_1_method_41_code 11 = .ok (.iload_n 2, 1) := by decide +kernel
theorem s80_11 {v0 v1 v3 v4 v5 v6 v7 v8 v9 v10 : Value} {l1 : Int32} {st : List Value} {im : IM} {rm : RM}  : ev 80 11 [v0, v1, .int l1, v3, v4, v5, v6, v7, v8, v9, v10] st im rm = ev 80 12 [v0, v1, .int l1, v3, v4, v5, v6, v7, v8, v9, v10] (.int l1 :: st) (im) (rm) := ev_iload_n pm_m80 d80_11 rfl rfl
theorem d80_12 : decode prog_1_method_41_code 12 = .ok (.aaload, 1) := by decide +kernel
theorem s80_12 {v0 v1 v2 v3 v4 v5 v6 v7 v8 v9 v10 : Value} {a : Nat} {i : Int32} {st : List Value} {im : IM} {rm : RM} (hk : 2 ≤ kd a ∧ kd a ≤ 5) (hi : pm_in i (ln a) = true) : ev 80 12 [v0, v1, v2, v3, v4, v5, v6, v7, v8, v9, v10] (.int i :: .ref a :: st) im rm = ev 80 13 [v0, v1, v2, v3, v4, v5, v6, v7, v8, v9, v10] (pm_ro (rm a i.toNatClampNeg) :: st) (im) (rm) := ev_aald pm_m80 d80_12 hk hi rfl
theorem d80_13 : decode prog_1_method_41_code 13 = .ok (.astore 4, 2) := by decide +kernel
theorem s80_13 {v0 v1 v2 v4 v5 v6 v7 v8 v9 v10 : Value} {l1 : Nat} {x2 : Nat} {st : List Value} {im : IM} {rm : RM}  : ev 80 13 [v0, v1, v2, .ref l1, v4, v5, v6, v7, v8, v9, v10] (.ref x2 :: st) im rm = ev 80 15 [v0, v1, v2, .ref l1, .ref x2, v5, v6, v7, v8, v9, v10] st (im) (rm) := ev_astore pm_m80 d80_13 (Nat.le_of_ble_eq_true rfl) rfl rfl
theorem d80_15 : decode prog_1_method_41_code 15 = .ok (.aload_n 0, 1) := by decide +kernel
theorem s80_15 {v1 v2 v3 v4 v5 v6 v7 v8 v9 v10 : Value} {l1 : Nat} {st : List Value} {im : IM} {rm : RM}  : ev 80 15 [.ref l1, v1, v2, v3, v4, v5, v6, v7, v8, v9, v10] st im rm = ev 80 16 [.ref l1, v1, v2, v3, v4, v5, v6, v7, v8, v9, v10] (.ref l1 :: st) (im) (rm) := ev_aload_n pm_m80 d80_15 rfl rfl
theorem d80_16 : decode prog_1_method_41_code 16 = .ok (.getfield 43, 3) := by decide +kernel
theorem s80_16 {v0 v1 v2 v3 v4 v5 v6 v7 v8 v9 v10 : Value} {a : Nat} {st : List Value} {im : IM} {rm : RM} (hk : kd a = 17) : ev 80 16 [v0, v1, v2, v3, v4, v5, v6, v7, v8, v9, v10] (.ref a :: st) im rm = ev 80 19 [v0, v1, v2, v3, v4, v5, v6, v7, v8, v9, v10] (pm_ro (rm a 5) :: st) (im) (rm) := ev_getR pm_m80 d80_16 f7_43 rfl hk rfl
theorem d80_19 : decode prog_1_method_41_code 19 = .ok (.iconst 0, 1) := by decide +kernel
theorem s80_19 {v0 v1 v2 v3 v4 v5 v6 v7 v8 v9 v10 : Value}  {st : List Value} {im : IM} {rm : RM}  : ev 80 19 [v0, v1, v2, v3, v4, v5, v6, v7, v8, v9, v10] st im rm = ev 80 20 [v0, v1, v2, v3, v4, v5, v6, v7, v8, v9, v10] (.int (nI 0) :: st) (im) (rm) := ev_iconst pm_m80 d80_19 rfl rfl
theorem d80_20 : decode prog_1_method_41_code 20 = .ok (.iaload, 1) := by decide +kernel
theorem s80_20 {v0 v1 v2 v3 v4 v5 v6 v7 v8 v9 v10 : Value} {a : Nat} {i : Int32} {st : List Value} {im : IM} {rm : RM} (hk : kd a = 0) (hi : pm_in i (ln a) = true) : ev 80 20 [v0, v1, v2, v3, v4, v5, v6, v7, v8, v9, v10] (.int i :: .ref a :: st) im rm = ev 80 21 [v0, v1, v2, v3, v4, v5, v6, v7, v8, v9, v10] (.int (im a i.toNatClampNeg) :: st) (im) (rm) := ev_iald pm_m80 d80_20 hk hi rfl
theorem d80_21 : decode prog_1_method_41_code 21 = .ok (.istore 5, 2) := by decide +kernel
theorem s80_21 {v0 v1 v2 v3 v5 v6 v7 v8 v9 v10 : Value} {l1 : Nat} {x2 : Int32} {st : List Value} {im : IM} {rm : RM}  : ev 80 21 [v0, v1, v2, v3, .ref l1, v5, v6, v7, v8, v9, v10] (.int x2 :: st) im rm = ev 80 23 [v0, v1, v2, v3, .ref l1, .int x2, v6, v7, v8, v9, v10] st (im) (rm) := ev_istore pm_m80 d80_21 (Nat.le_of_ble_eq_true rfl) rfl rfl
theorem d80_23 : decode prog_1_method_41_code 23 = .ok (.aload_n 0, 1) := by decide +kernel
theorem s80_23 {v1 v2 v3 v4 v5 v6 v7 v8 v9 v10 : Value} {l1 : Nat} {st : List Value} {im : IM} {rm : RM}  : ev 80 23 [.ref l1, v1, v2, v3, v4, v5, v6, v7, v8, v9, v10] st im rm = ev 80 24 [.ref l1, v1, v2, v3, v4, v5, v6, v7, v8, v9, v10] (.ref l1 :: st) (im) (rm) := ev_aload_n pm_m80 d80_23 rfl rfl
theorem d80_24 : decode prog_1_method_41_code 24 = .ok (.getfield 83, 3) := by decide +kernel
theorem s80_24 {v0 v1 v2 v3 v4 v5 v6 v7 v8 v9 v10 : Value} {a : Nat} {st : List Value} {im : IM} {rm : RM} (hk : kd a = 17) : ev 80 24 [v0, v1, v2, v3, v4, v5, v6, v7, v8, v9, v10] (.ref a :: st) im rm = ev 80 27 [v0, v1, v2, v3, v4, v5, v6, v7, v8, v9, v10] (pm_ro (rm a 13) :: st) (im) (rm) := ev_getR pm_m80 d80_24 f7_83 rfl hk rfl
theorem d80_27 : decode prog_1_method_41_code 27 = .ok (.invokevirtual 316, 3) := by decide +kernel
theorem s80_27 {v0 v1 v2 v3 v4 v5 v6 v7 v8 v9 v10 : Value} {a : Nat} {im : IM} {rm : RM} (hk : kd a = 13) : ev 80 27 [v0, v1, v2, v3, v4, v5, v6, v7, v8, v9, v10] [.ref a] im rm = (ev 12 0 [.ref a] [] im rm).bind (fun r => ev 80 30 [v0, v1, v2, v3, v4, v5, v6, v7, v8, v9, v10] (r.1.toList ++ []) r.2.1 r.2.2) := ev_callV pm_m80 d80_27 l7_316 rfl pm_m12 (by decide) hk rfl ⟨rfl, rfl⟩ rfl rfl
theorem d80_30 : decode prog_1_method_41_code 30 = .ok (.iconst 0, 1) := by decide +kernel
theorem s80_30 {v0 v1 v2 v3 v4 v5 v6 v7 v8 v9 v10 : Value}  {st : List Value} {im : IM} {rm : RM}  : ev 80 30 [v0, v1, v2, v3, v4, v5, v6, v7, v8, v9, v10] st im rm = ev 80 31 [v0, v1, v2, v3, v4, v5, v6, v7, v8, v9, v10] (.int (nI 0) :: st) (im) (rm) := ev_iconst pm_m80 d80_30 rfl rfl
theorem d80_31 : decode prog_1_method_41_code 31 = .ok (.istore 6, 2) := by decide +kernel
theorem s80_31 {v0 v1 v2 v3 v4 v6 v7 v8 v9 v10 : Value} {l1 : Int32} {x2 : Int32} {st : List Value} {im : IM} {rm : RM}  : ev 80 31 [v0, v1, v2, v3, v4, .int l1, v6, v7, v8, v9, v10] (.int x2 :: st) im rm = ev 80 33 [v0, pm_u, pm_u, v3, v4, .int l1, .int x2, pm_u, pm_u, pm_u, pm_u] st (im) (rm) := ev_istore pm_m80 d80_31 (Nat.le_of_ble_eq_true rfl) rfl rfl
theorem d80_33 : decode prog_1_method_41_code 33 = .ok (.iload 6, 2) := by decide +kernel
theorem s80_33 {v0 v1 v2 v3 v4 v5 v7 v8 v9 v10 : Value} {l1 : Int32} {st : List Value} {im : IM} {rm : RM}  : ev 80 33 [v0, v1, v2, v3, v4, v5, .int l1, v7, v8, v9, v10] st im rm = ev 80 35 [v0, v1, v2, v3, v4, v5, .int l1, v7, v8, v9, v10] (.int l1 :: st) (im) (rm) := ev_iload pm_m80 d80_33 rfl rfl
theorem d80_35 : decode prog_1_method_41_code 35 = .ok (.aload 4, 2) := by decide +kernel
theorem s80_35 {v0 v1 v2 v3 v5 v6 v7 v8 v9 v10 : Value} {l1 : Nat} {st : List Value} {im : IM} {rm : RM}  : ev 80 35 [v0, v1, v2, v3, .ref l1, v5, v6, v7, v8, v9, v10] st im rm = ev 80 37 [v0, v1, v2, v3, .ref l1, v5, v6, v7, v8, v9, v10] (.ref l1 :: st) (im) (rm) := ev_aload pm_m80 d80_35 rfl rfl
theorem d80_37 : decode prog_1_method_41_code 37 = .ok (.getfield 120, 3) := by decide +kernel
theorem s80_37 {v0 v1 v2 v3 v4 v5 v6 v7 v8 v9 v10 : Value} {a : Nat} {st : List Value} {im : IM} {rm : RM} (hk : kd a = 10) : ev 80 37 [v0, v1, v2, v3, v4, v5, v6, v7, v8, v9, v10] (.ref a :: st) im rm = ev 80 40 [v0, v1, v2, v3, v4, v5, v6, v7, v8, v9, v10] (.int (im a 2) :: st) (im) (rm) := ev_getI pm_m80 d80_37 f7_120 rfl hk rfl
theorem d80_40 : decode prog_1_method_41_code 40 = .ok (.if_icmp .ge 142, 3) := by decide +kernel
theorem s80_40 {v0 v1 v2 v3 v4 v5 v6 v7 v8 v9 v10 : Value} {x : Int32} {y : Int32} {st : List Value} {im : IM} {rm : RM} : ev 80 40 [v0, v1, v2, v3, v4, v5, v6, v7, v8, v9, v10] (.int y :: .int x :: st) im rm = if y ≤ x then ev 80 182 [pm_u, pm_u, pm_u, pm_u, pm_u, pm_u, pm_u, pm_u, pm_u, pm_u, pm_u] st im rm else ev 80 43 [v0, v1, v2, v3, v4, v5, v6, v7, v8, v9, v10] st im rm := ev_icmp_ge pm_m80 d80_40 rfl rfl rfl
theorem d80_43 : decode prog_1_method_41_code 43 = .ok (.aload 4, 2) := by decide +kernel
theorem s80_43 {v0 v1 v2 v3 v5 v6 v7 v8 v9 v10 : Value} {l1 : Nat} {st : List Value} {im : IM} {rm : RM}  : ev 80 43 [v0, v1, v2, v3, .ref l1, v5, v6, v7, v8, v9, v10] st im rm = ev 80 45 [v0, v1, v2, v3, .ref l1, v5, v6, v7, v8, v9, v10] (.ref l1 :: st) (im) (rm) := ev_aload pm_m80 d80_43 rfl rfl
theorem d80_45 : decode prog_1_method_41_code 45 = .ok (.iload 6, 2) := by decide +kernel
theorem s80_45 {v0 v1 v2 v3 v4 v5 v7 v8 v9 v10 : Value} {l1 : Int32} {st : List Value} {im : IM} {rm : RM}  : ev 80 45 [v0, v1, v2, v3, v4, v5, .int l1, v7, v8, v9, v10] st im rm = ev 80 47 [v0, v1, v2, v3, v4, v5, .int l1, v7, v8, v9, v10] (.int l1 :: st) (im) (rm) := ev_iload pm_m80 d80_45 rfl rfl
theorem d80_47 : decode prog_1_method_41_code 47 = .ok (.aload_n 0, 1) := by decide +kernel
theorem s80_47 {v1 v2 v3 v4 v5 v6 v7 v8 v9 v10 : Value} {l1 : Nat} {st : List Value} {im : IM} {rm : RM}  : ev 80 47 [.ref l1, v1, v2, v3, v4, v5, v6, v7, v8, v9, v10] st im rm = ev 80 48 [.ref l1, v1, v2, v3, v4, v5, v6, v7, v8, v9, v10] (.ref l1 :: st) (im) (rm) := ev_aload_n pm_m80 d80_47 rfl rfl
theorem d80_48 : decode prog_1_method_41_code 48 = .ok (.getfield 87, 3) := by decide +kernel
theorem s80_48 {v0 v1 v2 v3 v4 v5 v6 v7 v8 v9 v10 : Value} {a : Nat} {st : List Value} {im : IM} {rm : RM} (hk : kd a = 17) : ev 80 48 [v0, v1, v2, v3, v4, v5, v6, v7, v8, v9, v10] (.ref a :: st) im rm = ev 80 51 [v0, v1, v2, v3, v4, v5, v6, v7, v8, v9, v10] (pm_ro (rm a 14) :: st) (im) (rm) := ev_getR pm_m80 d80_48 f7_87 rfl hk rfl
theorem d80_51 : decode prog_1_method_41_code 51 = .ok (.invokevirtual 144, 3) := by decide +kernel
theorem s80_51 {v0 v1 v2 v3 v4 v5 v6 v7 v8 v9 v10 : Value} {a : Nat} {p1 : Int32} {p2 : Nat} {im : IM} {rm : RM} (hk : kd a = 10) : ev 80 51 [v0, v1, v2, v3, v4, v5, v6, v7, v8, v9, v10] [.ref p2, .int p1, .ref a] im rm = (ev 6 0 [.ref a, .int p1, .ref p2] [] im rm).bind (fun r => ev 80 54 [v0, v1, v2, v3, v4, v5, v6, v7, v8, v9, v10] (r.1.toList ++ []) r.2.1 r.2.2) := ev_callV pm_m80 d80_51 l7_144 rfl pm_m6 (by decide) hk rfl ⟨rfl, rfl⟩ rfl rfl
theorem d80_54 : decode prog_1_method_41_code 54 = .ok (.aload_n 3, 1) := by decide +kernel
theorem s80_54 {v0 v1 v2 v4 v5 v6 v7 v8 v9 v10 : Value} {l1 : Nat} {st : List Value} {im : IM} {rm : RM}  : ev 80 54 [v0, v1, v2, .ref l1, v4, v5, v6, v7, v8, v9, v10] st im rm = ev 80 55 [v0, v1, v2, .ref l1, v4, v5, v6, v7, v8, v9, v10] (.ref l1 :: st) (im) (rm) := ev_aload_n pm_m80 d80_54 rfl rfl
theorem d80_55 : decode prog_1_method_41_code 55 = .ok (.aload_n 0, 1) := by decide +kernel
theorem s80_55 {v1 v2 v3 v4 v5 v6 v7 v8 v9 v10 : Value} {l1 : Nat} {st : List Value} {im : IM} {rm : RM}  : ev 80 55 [.ref l1, v1, v2, v3, v4, v5, v6, v7, v8, v9, v10] st im rm = ev 80 56 [.ref l1, v1, v2, v3, v4, v5, v6, v7, v8, v9, v10] (.ref l1 :: st) (im) (rm) := ev_aload_n pm_m80 d80_55 rfl rfl
theorem d80_56 : decode prog_1_method_41_code 56 = .ok (.getfield 87, 3) := by decide +kernel
theorem s80_56 {v0 v1 v2 v3 v4 v5 v6 v7 v8 v9 v10 : Value} {a : Nat} {st : List Value} {im : IM} {rm : RM} (hk : kd a = 17) : ev 80 56 [v0, v1, v2, v3, v4, v5, v6, v7, v8, v9, v10] (.ref a :: st) im rm = ev 80 59 [v0, v1, v2, v3, v4, v5, v6, v7, v8, v9, v10] (pm_ro (rm a 14) :: st) (im) (rm) := ev_getR pm_m80 d80_56 f7_87 rfl hk rfl
theorem d80_59 : decode prog_1_method_41_code 59 = .ok (.invokevirtual 319, 3) := by decide +kernel
theorem s80_59 {v0 v1 v2 v3 v4 v5 v6 v7 v8 v9 v10 : Value} {a : Nat} {p1 : Nat} {im : IM} {rm : RM} (hk : kd a = 14) : ev 80 59 [v0, v1, v2, v3, v4, v5, v6, v7, v8, v9, v10] [.ref p1, .ref a] im rm = (ev 16 0 [.ref a, .ref p1, pm_u] [] im rm).bind (fun r => ev 80 62 [v0, v1, v2, v3, v4, v5, v6, v7, v8, v9, v10] (r.1.toList ++ []) r.2.1 r.2.2) := ev_callV pm_m80 d80_59 l7_319 rfl pm_m16 (by decide) hk rfl ⟨rfl, rfl⟩ rfl rfl
theorem d80_62 : decode prog_1_method_41_code 62 = .ok (.istore 7, 2) := by decide +kernel
theorem s80_62 {v0 v1 v2 v3 v4 v5 v7 v8 v9 v10 : Value} {l1 : Int32} {x2 : Int32} {st : List Value} {im : IM} {rm : RM}  : ev 80 62 [v0, v1, v2, v3, v4, v5, .int l1, v7, v8, v9, v10] (.int x2 :: st) im rm = ev 80 64 [v0, v1, v2, v3, v4, v5, .int l1, .int x2, v8, v9, v10] st (im) (rm) := ev_istore pm_m80 d80_62 (Nat.le_of_ble_eq_true rfl) rfl rfl
theorem d80_64 : decode prog_1_method_41_code 64 = .ok (.aload_n 3, 1) := by decide +kernel
theorem s80_64 {v0 v1 v2 v4 v5 v6 v7 v8 v9 v10 : Value} {l1 : Nat} {st : List Value} {im : IM} {rm : RM}  : ev 80 64 [v0, v1, v2, .ref l1, v4, v5, v6, v7, v8, v9, v10] st im rm = ev 80 65 [v0, v1, v2, .ref l1, v4, v5, v6, v7, v8, v9, v10] (.ref l1 :: st) (im) (rm) := ev_aload_n pm_m80 d80_64 rfl rfl
theorem d80_65 : decode prog_1_method_41_code 65 = .ok (.iload 7, 2) := by decide +kernel
theorem s80_65 {v0 v1 v2 v3 v4 v5 v6 v8 v9 v10 : Value} {l1 : Int32} {st : List Value} {im : IM} {rm : RM}  : ev 80 65 [v0, v1, v2, v3, v4, v5, v6, .int l1, v8, v9, v10] st im rm = ev 80 67 [v0, v1, v2, v3, v4, v5, v6, .int l1, v8, v9, v10] (.int l1 :: st) (im) (rm) := ev_iload pm_m80 d80_65 rfl rfl
theorem d80_67 : decode prog_1_method_41_code 67 = .ok (.invokevirtual 323, 3) := by decide +kernel
theorem s80_67 {v0 v1 v2 v3 v4 v5 v6 v7 v8 v9 v10 : Value} {a : Nat} {p1 : Int32} {im : IM} {rm : RM} (hk : kd a = 14) : ev 80 67 [v0, v1, v2, v3, v4, v5, v6, v7, v8, v9, v10] [.int p1, .ref a] im rm = (ev 18 0 [.ref a, .int p1] [] im rm).bind (fun r => ev 80 70 [v0, v1, v2, v3, v4, v5, v6, v7, v8, v9, v10] (r.1.toList ++ []) r.2.1 r.2.2) := ev_callV pm_m80 d80_67 l7_323 rfl pm_m18 (by decide) hk rfl ⟨rfl, rfl⟩ rfl rfl
theorem d80_70 : decode prog_1_method_41_code 70 = .ok (.istore 8, 2) := by decide +kernel
theorem s80_70 {v0 v1 v2 v3 v4 v5 v6 v8 v9 v10 : Value} {l1 : Int32} {x2 : Int32} {st : List Value} {im : IM} {rm : RM}  : ev 80 70 [v0, v1, v2, v3, v4, v5, v6, .int l1, v8, v9, v10] (.int x2 :: st) im rm = ev 80 72 [v0, v1, v2, v3, v4, v5, v6, .int l1, .int x2, v9, v10] st (im) (rm) := ev_istore pm_m80 d80_70 (Nat.le_of_ble_eq_true rfl) rfl rfl
theorem d80_72 : decode prog_1_method_41_code 72 = .ok (.aload 4, 2) := by decide +kernel
theorem s80_72 {v0 v1 v2 v3 v5 v6 v7 v8 v9 v10 : Value} {l1 : Nat} {st : List Value} {im : IM} {rm : RM}  : ev 80 72 [v0, v1, v2, v3, .ref l1, v5, v6, v7, v8, v9, v10] st im rm = ev 80 74 [v0, v1, v2, v3, .ref l1, v5, v6, v7, v8, v9, v10] (.ref l1 :: st) (im) (rm) := ev_aload pm_m80 d80_72 rfl rfl
theorem d80_74 : decode prog_1_method_41_code 74 = .ok (.getfield 326, 3) := by decide +kernel
theorem s80_74 {v0 v1 v2 v3 v4 v5 v6 v7 v8 v9 v10 : Value} {a : Nat} {st : List Value} {im : IM} {rm : RM} (hk : kd a = 10) : ev 80 74 [v0, v1, v2, v3, v4, v5, v6, v7, v8, v9, v10] (.ref a :: st) im rm = ev 80 77 [v0, v1, v2, v3, v4, v5, v6, v7, v8, v9, v10] (pm_ro (rm a 5) :: st) (im) (rm) := ev_getR pm_m80 d80_74 f7_326 rfl hk rfl
theorem d80_77 : decode prog_1_method_41_code 77 = .ok (.iload 6, 2) := by decide +kernel
theorem s80_77 {v0 v1 v2 v3 v4 v5 v7 v8 v9 v10 : Value} {l1 : Int32} {st : List Value} {im : IM} {rm : RM}  : ev 80 77 [v0, v1, v2, v3, v4, v5, .int l1, v7, v8, v9, v10] st im rm = ev 80 79 [v0, v1, v2, v3, v4, v5, .int l1, v7, v8, v9, v10] (.int l1 :: st) (im) (rm) := ev_iload pm_m80 d80_77 rfl rfl
theorem d80_79 : decode prog_1_method_41_code 79 = .ok (.iaload, 1) := by decide +kernel
theorem s80_79 {v0 v1 v2 v3 v4 v5 v6 v7 v8 v9 v10 : Value} {a : Nat} {i : Int32} {st : List Value} {im : IM} {rm : RM} (hk : kd a = 0) (hi : pm_in i (ln a) = true) : ev 80 79 [v0, v1, v2, v3, v4, v5, v6, v7, v8, v9, v10] (.int i :: .ref a :: st) im rm = ev 80 80 [v0, v1, v2, v3, v4, v5, v6, v7, v8, v9, v10] (.int (im a i.toNatClampNeg) :: st) (im) (rm) := ev_iald pm_m80 d80_79 hk hi rfl
theorem d80_80 : decode prog_1_method_41_code 80 = .ok (.aload 4, 2) := by decide +kernel
theorem s80_80 {v0 v1 v2 v3 v5 v6 v7 v8 v9 v10 : Value} {l1 : Nat} {st : List Value} {im : IM} {rm : RM}  : ev 80 80 [v0, v1, v2, v3, .ref l1, v5, v6, v7, v8, v9, v10] st im rm = ev 80 82 [v0, v1, v2, v3, .ref l1, v5, v6, v7, v8, v9, v10] (.ref l1 :: st) (im) (rm) := ev_aload pm_m80 d80_80 rfl rfl
theorem d80_82 : decode prog_1_method_41_code 82 = .ok (.getfield 329, 3) := by decide +kernel
theorem s80_82 {v0 v1 v2 v3 v4 v5 v6 v7 v8 v9 v10 : Value} {a : Nat} {st : List Value} {im : IM} {rm : RM} (hk : kd a = 10) : ev 80 82 [v0, v1, v2, v3, v4, v5, v6, v7, v8, v9, v10] (.ref a :: st) im rm = ev 80 85 [v0, v1, v2, v3, v4, v5, v6, v7, v8, v9, v10] (pm_ro (rm a 4) :: st) (im) (rm) := ev_getR pm_m80 d80_82 f7_329 rfl hk rfl
theorem d80_85 : decode prog_1_method_41_code 85 = .ok (.iload 6, 2) := by decide +kernel
theorem s80_85 {v0 v1 v2 v3 v4 v5 v7 v8 v9 v10 : Value} {l1 : Int32} {st : List Value} {im : IM} {rm : RM}  : ev 80 85 [v0, v1, v2, v3, v4, v5, .int l1, v7, v8, v9, v10] st im rm = ev 80 87 [v0, v1, v2, v3, v4, v5, .int l1, v7, v8, v9, v10] (.int l1 :: st) (im) (rm) := ev_iload pm_m80 d80_85 rfl rfl
theorem d80_87 : decode prog_1_method_41_code 87 = .ok (.iaload, 1) := by decide +kernel
theorem s80_87 {v0 v1 v2 v3 v4 v5 v6 v7 v8 v9 v10 : Value} {a : Nat} {i : Int32} {st : List Value} {im : IM} {rm : RM} (hk : kd a = 0) (hi : pm_in i (ln a) = true) : ev 80 87 [v0, v1, v2, v3, v4, v5, v6, v7, v8, v9, v10] (.int i :: .ref a :: st) im rm = ev 80 88 [v0, v1, v2, v3, v4, v5, v6, v7, v8, v9, v10] (.int (im a i.toNatClampNeg) :: st) (im) (rm) := ev_iald pm_m80 d80_87 hk hi rfl
theorem d80_88 : decode prog_1_method_41_code 88 = .ok (.iconst 2, 1) := by decide +kernel
theorem s80_88 {v0 v1 v2 v3 v4 v5 v6 v7 v8 v9 v10 : Value}  {st : List Value} {im : IM} {rm : RM}  : ev 80 88 [v0, v1, v2, v3, v4, v5, v6, v7, v8, v9, v10] st im rm = ev 80 89 [v0, v1, v2, v3, v4, v5, v6, v7, v8, v9, v10] (.int (nI 2) :: st) (im) (rm) := ev_iconst pm_m80 d80_88 rfl rfl
theorem d80_89 : decode prog_1_method_41_code 89 = .ok (.idiv, 1) := by decide +kernel
theorem s80_89 {v0 v1 v2 v3 v4 v5 v6 v7 v8 v9 v10 : Value} {x : Int32} {y : Int32} {st : List Value} {im : IM} {rm : RM} (h0 : ¬ y = 0) : ev 80 89 [v0, v1, v2, v3, v4, v5, v6, v7, v8, v9, v10] (.int y :: .int x :: st) im rm = ev 80 90 [v0, v1, v2, v3, v4, v5, v6, v7, v8, v9, v10] (.int (x / y) :: st) (im) (rm) := ev_idiv pm_m80 d80_89 h0 rfl
theorem d80_90 : decode prog_1_method_41_code 90 = .ok (.iadd, 1) := by decide +kernel
theorem s80_90 {v0 v1 v2 v3 v4 v5 v6 v7 v8 v9 v10 : Value} {x : Int32} {y : Int32} {st : List Value} {im : IM} {rm : RM}  : ev 80 90 [v0, v1, v2, v3, v4, v5, v6, v7, v8, v9, v10] (.int y :: .int x :: st) im rm = ev 80 91 [v0, v1, v2, v3, v4, v5, v6, v7, v8, v9, v10] (.int (x + y) :: st) (im) (rm) := ev_iadd pm_m80 d80_90 rfl
theorem d80_91 : decode prog_1_method_41_code 91 = .ok (.istore 9, 2) := by decide +kernel
theorem s80_91 {v0 v1 v2 v3 v4 v5 v6 v7 v9 v10 : Value} {l1 : Int32} {x2 : Int32} {st : List Value} {im : IM} {rm : RM}  : ev 80 91 [v0, v1, v2, v3, v4, v5, v6, v7, .int l1, v9, v10] (.int x2 :: st) im rm = ev 80 93 [v0, v1, v2, v3, v4, v5, v6, v7, .int l1, .int x2, v10] st (im) (rm) := ev_istore pm_m80 d80_91 (Nat.le_of_ble_eq_true rfl) rfl rfl
theorem d80_93 : decode prog_1_method_41_code 93 = .ok (.aload_n 0, 1) := by decide +kernel
theorem s80_93 {v1 v2 v3 v4 v5 v6 v7 v8 v9 v10 : Value} {l1 : Nat} {st : List Value} {im : IM} {rm : RM}  : ev 80 93 [.ref l1, v1, v2, v3, v4, v5, v6, v7, v8, v9, v10] st im rm = ev 80 94 [.ref l1, v1, v2, v3, v4, v5, v6, v7, v8, v9, v10] (.ref l1 :: st) (im) (rm) := ev_aload_n pm_m80 d80_93 rfl rfl
theorem d80_94 : decode prog_1_method_41_code 94 = .ok (.getfield 36, 3) := by decide +kernel
theorem s80_94 {v0 v1 v2 v3 v4 v5 v6 v7 v8 v9 v10 : Value} {a : Nat} {st : List Value} {im : IM} {rm : RM} (hk : kd a = 17) : ev 80 94 [v0, v1, v2, v3, v4, v5, v6, v7, v8, v9, v10] (.ref a :: st) im rm = ev 80 97 [v0, v1, v2, v3, v4, v5, v6, v7, v8, v9, v10] (pm_ro (rm a 4) :: st) (im) (rm) := ev_getR pm_m80 d80_94 f7_36 rfl hk rfl
theorem d80_97 : decode prog_1_method_41_code 97 = .ok (.iload 8, 2) := by decide +kernel
theorem s80_97 {v0 v1 v2 v3 v4 v5 v6 v7 v9 v10 : Value} {l1 : Int32} {st : List Value} {im : IM} {rm : RM}  : ev 80 97 [v0, v1, v2, v3, v4, v5, v6, v7, .int l1, v9, v10] st im rm = ev 80 99 [v0, v1, v2, v3, v4, v5, v6, v7, .int l1, v9, v10] (.int l1 :: st) (im) (rm) := ev_iload pm_m80 d80_97 rfl rfl
theorem d80_99 : decode prog_1_method_41_code 99 = .ok (.aaload, 1) := by decide +kernel
theorem s80_99 {v0 v1 v2 v3 v4 v5 v6 v7 v8 v9 v10 : Value} {a : Nat} {i : Int32} {st : List Value} {im : IM} {rm : RM} (hk : 2 ≤ kd a ∧ kd a ≤ 5) (hi : pm_in i (ln a) = true) : ev 80 99 [v0, v1, v2, v3, v4, v5, v6, v7, v8, v9, v10] (.int i :: .ref a :: st) im rm = ev 80 100 [v0, v1, v2, v3, v4, v5, v6, v7, v8, v9, v10] (pm_ro (rm a i.toNatClampNeg) :: st) (im) (rm) := ev_aald pm_m80 d80_99 hk hi rfl
theorem d80_100 : decode prog_1_method_41_code 100 = .ok (.aload 4, 2) := by decide +kernel
theorem s80_100 {v0 v1 v2 v3 v5 v6 v7 v8 v9 v10 : Value} {l1 : Nat} {st : List Value} {im : IM} {rm : RM}  : ev 80 100 [v0, v1, v2, v3, .ref l1, v5, v6, v7, v8, v9, v10] st im rm = ev 80 102 [v0, v1, v2, v3, .ref l1, v5, v6, v7, v8, v9, v10] (.ref l1 :: st) (im) (rm) := ev_aload pm_m80 d80_100 rfl rfl
theorem d80_102 : decode prog_1_method_41_code 102 = .ok (.getfield 329, 3) := by decide +kernel
theorem s80_102 {v0 v1 v2 v3 v4 v5 v6 v7 v8 v9 v10 : Value} {a : Nat} {st : List Value} {im : IM} {rm : RM} (hk : kd a = 10) : ev 80 102 [v0, v1, v2, v3, v4, v5, v6, v7, v8, v9, v10] (.ref a :: st) im rm = ev 80 105 [v0, v1, v2, v3, v4, v5, v6, v7, v8, v9, v10] (pm_ro (rm a 4) :: st) (im) (rm) := ev_getR pm_m80 d80_102 f7_329 rfl hk rfl
theorem d80_105 : decode prog_1_method_41_code 105 = .ok (.iload 6, 2) := by decide +kernel
theorem s80_105 {v0 v1 v2 v3 v4 v5 v7 v8 v9 v10 : Value} {l1 : Int32} {st : List Value} {im : IM} {rm : RM}  : ev 80 105 [v0, v1, v2, v3, v4, v5, .int l1, v7, v8, v9, v10] st im rm = ev 80 107 [v0, v1, v2, v3, v4, v5, .int l1, v7, v8, v9, v10] (.int l1 :: st) (im) (rm) := ev_iload pm_m80 d80_105 rfl rfl
theorem d80_107 : decode prog_1_method_41_code 107 = .ok (.iaload, 1) := by decide +kernel
theorem s80_107 {v0 v1 v2 v3 v4 v5 v6 v7 v8 v9 v10 : Value} {a : Nat} {i : Int32} {st : List Value} {im : IM} {rm : RM} (hk : kd a = 0) (hi : pm_in i (ln a) = true) : ev 80 107 [v0, v1, v2, v3, v4, v5, v6, v7, v8, v9, v10] (.int i :: .ref a :: st) im rm = ev 80 108 [v0, v1, v2, v3, v4, v5, v6, v7, v8, v9, v10] (.int (im a i.toNatClampNeg) :: st) (im) (rm) := ev_iald pm_m80 d80_107 hk hi rfl
theorem d80_108 : decode prog_1_method_41_code 108 = .ok (.bipush 40, 2) := by decide +kernel
theorem s80_108 {v0 v1 v2 v3 v4 v5 v6 v7 v8 v9 v10 : Value}  {st : List Value} {im : IM} {rm : RM}  : ev 80 108 [v0, v1, v2, v3, v4, v5, v6, v7, v8, v9, v10] st im rm = ev 80 110 [v0, v1, v2, v3, v4, v5, v6, v7, v8, v9, v10] (.int (nI 40) :: st) (im) (rm) := ev_bipush pm_m80 d80_108 rfl rfl
theorem d80_110 : decode prog_1_method_41_code 110 = .ok (.idiv, 1) := by decide +kernel
theorem s80_110 {v0 v1 v2 v3 v4 v5 v6 v7 v8 v9 v10 : Value} {x : Int32} {y : Int32} {st : List Value} {im : IM} {rm : RM} (h0 : ¬ y = 0) : ev 80 110 [v0, v1, v2, v3, v4, v5, v6, v7, v8, v9, v10] (.int y :: .int x :: st) im rm = ev 80 111 [v0, v1, v2, v3, v4, v5, v6, v7, v8, v9, v10] (.int (x / y) :: st) (im) (rm) := ev_idiv pm_m80 d80_110 h0 rfl
theorem d80_111 : decode prog_1_method_41_code 111 = .ok (.iaload, 1) := by decide +kernel
theorem s80_111 {v0 v1 v2 v3 v4 v5 v6 v7 v8 v9 v10 : Value} {a : Nat} {i : Int32} {st : List Value} {im : IM} {rm : RM} (hk : kd a = 0) (hi : pm_in i (ln a) = true) : ev 80 111 [v0, v1, v2, v3, v4, v5, v6, v7, v8, v9, v10] (.int i :: .ref a :: st) im rm = ev 80 112 [v0, v1, v2, v3, v4, v5, v6, v7, v8, v9, v10] (.int (im a i.toNatClampNeg) :: st) (im) (rm) := ev_iald pm_m80 d80_111 hk hi rfl
theorem d80_112 : decode prog_1_method_41_code 112 = .ok (.iload 5, 2) := by decide +kernel
theorem s80_112 {v0 v1 v2 v3 v4 v6 v7 v8 v9 v10 : Value} {l1 : Int32} {st : List Value} {im : IM} {rm : RM}  : ev 80 112 [v0, v1, v2, v3, v4, .int l1, v6, v7, v8, v9, v10] st im rm = ev 80 114 [v0, v1, v2, v3, v4, .int l1, v6, v7, v8, v9, v10] (.int l1 :: st) (im) (rm) := ev_iload pm_m80 d80_112 rfl rfl
theorem d80_114 : decode prog_1_method_41_code 114 = .ok (.invokestatic 253, 3) := by decide +kernel
theorem s80_114 {v0 v1 v2 v3 v4 v5 v6 v7 v8 v9 v10 : Value} {p1 : Int32} {p2 : Int32} {im : IM} {rm : RM}  : ev 80 114 [v0, v1, v2, v3, v4, v5, v6, v7, v8, v9, v10] [.int p2, .int p1] im rm = (ev 176 0 [.int p1, .int p2] [] im rm).bind (fun r => ev 80 117 [v0, v1, v2, v3, v4, v5, v6, v7, v8, v9, v10] (r.1.toList ++ []) r.2.1 r.2.2) := ev_callS pm_m80 d80_114 (by decide) l7_253 rfl pm_m176 rfl ⟨rfl, rfl⟩ rfl rfl
theorem d80_117 : decode prog_1_method_41_code 117 = .ok (.istore 10, 2) := by decide +kernel
theorem s80_117 {v0 v1 v2 v3 v4 v5 v6 v7 v8 v10 : Value} {l1 : Int32} {x2 : Int32} {st : List Value} {im : IM} {rm : RM}  : ev 80 117 [v0, v1, v2, v3, v4, v5, v6, v7, v8, .int l1, v10] (.int x2 :: st) im rm = ev 80 119 [v0, v1, v2, v3, v4, v5, v6, v7, v8, .int l1, .int x2] st (im) (rm) := ev_istore pm_m80 d80_117 (Nat.le_of_ble_eq_true rfl) rfl rfl
theorem d80_119 : decode prog_1_method_41_code 119 = .ok (.iload 5, 2) := by decide +kernel
theorem s80_119 {v0 v1 v2 v3 v4 v6 v7 v8 v9 v10 : Value} {l1 : Int32} {st : List Value} {im : IM} {rm : RM}  : ev 80 119 [v0, v1, v2, v3, v4, .int l1, v6, v7, v8, v9, v10] st im rm = ev 80 121 [v0, v1, v2, v3, v4, .int l1, v6, v7, v8, v9, v10] (.int l1 :: st) (im) (rm) := ev_iload pm_m80 d80_119 rfl rfl
theorem d80_121 : decode prog_1_method_41_code 121 = .ok (.iload 10, 2) := by decide +kernel
theorem s80_121 {v0 v1 v2 v3 v4 v5 v6 v7 v8 v9 : Value} {l1 : Int32} {st : List Value} {im : IM} {rm : RM}  : ev 80 121 [v0, v1, v2, v3, v4, v5, v6, v7, v8, v9, .int l1] st im rm = ev 80 123 [v0, v1, v2, v3, v4, v5, v6, v7, v8, v9, .int l1] (.int l1 :: st) (im) (rm) := ev_iload pm_m80 d80_121 rfl rfl
theorem d80_123 : decode prog_1_method_41_code 123 = .ok (.isub, 1) := by decide +kernel
theorem s80_123 {v0 v1 v2 v3 v4 v5 v6 v7 v8 v9 v10 : Value} {x : Int32} {y : Int32} {st : List Value} {im : IM} {rm : RM}  : ev 80 123 [v0, v1, v2, v3, v4, v5, v6, v7, v8, v9, v10] (.int y :: .int x :: st) im rm = ev 80 124 [v0, v1, v2, v3, v4, v5, v6, v7, v8, v9, v10] (.int (x - y) :: st) (im) (rm) := ev_isub pm_m80 d80_123 rfl
theorem d80_124 : decode prog_1_method_41_code 124 = .ok (.istore 5, 2) := by decide +kernel
theorem s80_124 {v0 v1 v2 v3 v5 v6 v7 v8 v9 v10 : Value} {l1 : Nat} {x2 : Int32} {st : List Value} {im : IM} {rm : RM}  : ev 80 124 [v0, v1, v2, v3, .ref l1, v5, v6, v7, v8, v9, v10] (.int x2 :: st) im rm = ev 80 126 [v0, v1, v2, v3, .ref l1, .int x2, v6, v7, v8, v9, v10] st (im) (rm) := ev_istore pm_m80 d80_124 (Nat.le_of_ble_eq_true rfl) rfl rfl
theorem d80_126 : decode prog_1_method_41_code 126 = .ok (.aload_n 0, 1) := by decide +kernel
theorem s80_126 {v1 v2 v3 v4 v5 v6 v7 v8 v9 v10 : Value} {l1 : Nat} {st : List Value} {im : IM} {rm : RM}  : ev 80 126 [.ref l1, v1, v2, v3, v4, v5, v6, v7, v8, v9, v10] st im rm = ev 80 127 [.ref l1, v1, v2, v3, v4, v5, v6, v7, v8, v9, v10] (.ref l1 :: st) (im) (rm) := ev_aload_n pm_m80 d80_126 rfl rfl
theorem d80_127 : decode prog_1_method_41_code 127 = .ok (.getfield 83, 3) := by decide +kernel
theorem s80_127 {v0 v1 v2 v3 v4 v5 v6 v7 v8 v9 v10 : Value} {a : Nat} {st : List Value} {im : IM} {rm : RM} (hk : kd a = 17) : ev 80 127 [v0, v1, v2, v3, v4, v5, v6, v7, v8, v9, v10] (.ref a :: st) im rm = ev 80 130 [v0, v1, v2, v3, v4, v5, v6, v7, v8, v9, v10] (pm_ro (rm a 13) :: st) (im) (rm) := ev_getR pm_m80 d80_127 f7_83 rfl hk rfl
theorem d80_130 : decode prog_1_method_41_code 130 = .ok (.getfield 167, 3) := by decide +kernel
theorem s80_130 {v0 v1 v2 v3 v4 v5 v6 v7 v8 v9 v10 : Value} {a : Nat} {st : List Value} {im : IM} {rm : RM} (hk : kd a = 13) : ev 80 130 [v0, v1, v2, v3, v4, v5, v6, v7, v8, v9, v10] (.ref a :: st) im rm = ev 80 133 [v0, v1, v2, v3, v4, v5, v6, v7, v8, v9, v10] (pm_ro (rm a 0) :: st) (im) (rm) := ev_getR pm_m80 d80_130 f7_167 rfl hk rfl
theorem d80_133 : decode prog_1_method_41_code 133 = .ok (.iload 6, 2) := by decide +kernel
theorem s80_133 {v0 v1 v2 v3 v4 v5 v7 v8 v9 v10 : Value} {l1 : Int32} {st : List Value} {im : IM} {rm : RM}  : ev 80 133 [v0, v1, v2, v3, v4, v5, .int l1, v7, v8, v9, v10] st im rm = ev 80 135 [v0, v1, v2, v3, v4, v5, .int l1, v7, v8, v9, v10] (.int l1 :: st) (im) (rm) := ev_iload pm_m80 d80_133 rfl rfl
theorem d80_135 : decode prog_1_method_41_code 135 = .ok (.iload 8, 2) := by decide +kernel
theorem s80_135 {v0 v1 v2 v3 v4 v5 v6 v7 v9 v10 : Value} {l1 : Int32} {st : List Value} {im : IM} {rm : RM}  : ev 80 135 [v0, v1, v2, v3, v4, v5, v6, v7, .int l1, v9, v10] st im rm = ev 80 137 [v0, v1, v2, v3, v4, v5, v6, v7, .int l1, v9, v10] (.int l1 :: st) (im) (rm) := ev_iload pm_m80 d80_135 rfl rfl
theorem d80_137 : decode prog_1_method_41_code 137 = .ok (.iastore, 1) := by decide +kernel
theorem s80_137 {v0 v1 v2 v3 v4 v5 v6 v7 v8 v9 v10 : Value} {a : Nat} {i : Int32} {v : Int32} {st : List Value} {im : IM} {rm : RM} (hk : kd a = 0) (hi : pm_in i (ln a) = true) : ev 80 137 [v0, v1, v2, v3, v4, v5, v6, v7, v8, v9, v10] (.int v :: .int i :: .ref a :: st) im rm = ev 80 138 [v0, v1, v2, v3, v4, v5, v6, v7, v8, v9, v10] st (pm_w2 im a i.toNatClampNeg v) (rm) := ev_iast pm_m80 d80_137 hk hi rfl
theorem d80_138 : decode prog_1_method_41_code 138 = .ok (.aload_n 0, 1) := by decide +kernel
theorem s80_138 {v1 v2 v3 v4 v5 v6 v7 v8 v9 v10 : Value} {l1 : Nat} {st : List Value} {im : IM} {rm : RM}  : ev 80 138 [.ref l1, v1, v2, v3, v4, v5, v6, v7, v8, v9, v10] st im rm = ev 80 139 [.ref l1, v1, v2, v3, v4, v5, v6, v7, v8, v9, v10] (.ref l1 :: st) (im) (rm) := ev_aload_n pm_m80 d80_138 rfl rfl
theorem d80_139 : decode prog_1_method_41_code 139 = .ok (.getfield 83, 3) := by decide +kernel
theorem s80_139 {v0 v1 v2 v3 v4 v5 v6 v7 v8 v9 v10 : Value} {a : Nat} {st : List Value} {im : IM} {rm : RM} (hk : kd a = 17) : ev 80 139 [v0, v1, v2, v3, v4, v5, v6, v7, v8, v9, v10] (.ref a :: st) im rm = ev 80 142 [v0, v1, v2, v3, v4, v5, v6, v7, v8, v9, v10] (pm_ro (rm a 13) :: st) (im) (rm) := ev_getR pm_m80 d80_139 f7_83 rfl hk rfl
theorem d80_142 : decode prog_1_method_41_code 142 = .ok (.getfield 170, 3) := by decide +kernel
theorem s80_142 {v0 v1 v2 v3 v4 v5 v6 v7 v8 v9 v10 : Value} {a : Nat} {st : List Value} {im : IM} {rm : RM} (hk : kd a = 13) : ev 80 142 [v0, v1, v2, v3, v4, v5, v6, v7, v8, v9, v10] (.ref a :: st) im rm = ev 80 145 [v0, v1, v2, v3, v4, v5, v6, v7, v8, v9, v10] (pm_ro (rm a 1) :: st) (im) (rm) := ev_getR pm_m80 d80_142 f7_170 rfl hk rfl
theorem d80_145 : decode prog_1_method_41_code 145 = .ok (.iload 6, 2) := by decide +kernel
theorem s80_145 {v0 v1 v2 v3 v4 v5 v7 v8 v9 v10 : Value} {l1 : Int32} {st : List Value} {im : IM} {rm : RM}  : ev 80 145 [v0, v1, v2, v3, v4, v5, .int l1, v7, v8, v9, v10] st im rm = ev 80 147 [v0, v1, v2, v3, v4, v5, .int l1, v7, v8, v9, v10] (.int l1 :: st) (im) (rm) := ev_iload pm_m80 d80_145 rfl rfl
theorem d80_147 : decode prog_1_method_41_code 147 = .ok (.iload 7, 2) := by decide +kernel
theorem s80_147 {v0 v1 v2 v3 v4 v5 v6 v8 v9 v10 : Value} {l1 : Int32} {st : List Value} {im : IM} {rm : RM}  : ev 80 147 [v0, v1, v2, v3, v4, v5, v6, .int l1, v8, v9, v10] st im rm = ev 80 149 [v0, v1, v2, v3, v4, v5, v6, .int l1, v8, v9, v10] (.int l1 :: st) (im) (rm) := ev_iload pm_m80 d80_147 rfl rfl
theorem d80_149 : decode prog_1_method_41_code 149 = .ok (.iastore, 1) := by decide +kernel
theorem s80_149 {v0 v1 v2 v3 v4 v5 v6 v7 v8 v9 v10 : Value} {a : Nat} {i : Int32} {v : Int32} {st : List Value} {im : IM} {rm : RM} (hk : kd a = 0) (hi : pm_in i (ln a) = true) : ev 80 149 [v0, v1, v2, v3, v4, v5, v6, v7, v8, v9, v10] (.int v :: .int i :: .ref a :: st) im rm = ev 80 150 [v0, v1, v2, v3, v4, v5, v6, v7, v8, v9, v10] st (pm_w2 im a i.toNatClampNeg v) (rm) := ev_iast pm_m80 d80_149 hk hi rfl
theorem d80_150 : decode prog_1_method_41_code 150 = .ok (.aload_n 0, 1) := by decide +kernel
theorem s80_150 {v1 v2 v3 v4 v5 v6 v7 v8 v9 v10 : Value} {l1 : Nat} {st : List Value} {im : IM} {rm : RM}  : ev 80 150 [.ref l1, v1, v2, v3, v4, v5, v6, v7, v8, v9, v10] st im rm = ev 80 151 [.ref l1, v1, v2, v3, v4, v5, v6, v7, v8, v9, v10] (.ref l1 :: st) (im) (rm) := ev_aload_n pm_m80 d80_150 rfl rfl
theorem d80_151 : decode prog_1_method_41_code 151 = .ok (.getfield 83, 3) := by decide +kernel
theorem s80_151 {v0 v1 v2 v3 v4 v5 v6 v7 v8 v9 v10 : Value} {a : Nat} {st : List Value} {im : IM} {rm : RM} (hk : kd a = 17) : ev 80 151 [v0, v1, v2, v3, v4, v5, v6, v7, v8, v9, v10] (.ref a :: st) im rm = ev 80 154 [v0, v1, v2, v3, v4, v5, v6, v7, v8, v9, v10] (pm_ro (rm a 13) :: st) (im) (rm) := ev_getR pm_m80 d80_151 f7_83 rfl hk rfl
theorem d80_154 : decode prog_1_method_41_code 154 = .ok (.iload 6, 2) := by decide +kernel
theorem s80_154 {v0 v1 v2 v3 v4 v5 v7 v8 v9 v10 : Value} {l1 : Int32} {st : List Value} {im : IM} {rm : RM}  : ev 80 154 [v0, v1, v2, v3, v4, v5, .int l1, v7, v8, v9, v10] st im rm = ev 80 156 [v0, v1, v2, v3, v4, v5, .int l1, v7, v8, v9, v10] (.int l1 :: st) (im) (rm) := ev_iload pm_m80 d80_154 rfl rfl
theorem d80_156 : decode prog_1_method_41_code 156 = .ok (.iload 9, 2) := by decide +kernel
theorem s80_156 {v0 v1 v2 v3 v4 v5 v6 v7 v8 v10 : Value} {l1 : Int32} {st : List Value} {im : IM} {rm : RM}  : ev 80 156 [v0, v1, v2, v3, v4, v5, v6, v7, v8, .int l1, v10] st im rm = ev 80 158 [v0, v1, v2, v3, v4, v5, v6, v7, v8, .int l1, v10] (.int l1 :: st) (im) (rm) := ev_iload pm_m80 d80_156 rfl rfl
theorem d80_158 : decode prog_1_method_41_code 158 = .ok (.iload 10, 2) := by decide +kernel
theorem s80_158 {v0 v1 v2 v3 v4 v5 v6 v7 v8 v9 : Value} {l1 : Int32} {st : List Value} {im : IM} {rm : RM}  : ev 80 158 [v0, v1, v2, v3, v4, v5, v6, v7, v8, v9, .int l1] st im rm = ev 80 160 [v0, v1, v2, v3, v4, v5, v6, v7, v8, v9, .int l1] (.int l1 :: st) (im) (rm) := ev_iload pm_m80 d80_158 rfl rfl
theorem d80_160 : decode prog_1_method_41_code 160 = .ok (.aload 4, 2) := by decide +kernel
theorem s80_160 {v0 v1 v2 v3 v5 v6 v7 v8 v9 v10 : Value} {l1 : Nat} {st : List Value} {im : IM} {rm : RM}  : ev 80 160 [v0, v1, v2, v3, .ref l1, v5, v6, v7, v8, v9, v10] st im rm = ev 80 162 [v0, v1, v2, v3, .ref l1, v5, v6, v7, v8, v9, v10] (.ref l1 :: st) (im) (rm) := ev_aload pm_m80 d80_160 rfl rfl
theorem d80_162 : decode prog_1_method_41_code 162 = .ok (.iload 6, 2) := by decide +kernel
theorem s80_162 {v0 v1 v2 v3 v4 v5 v7 v8 v9 v10 : Value} {l1 : Int32} {st : List Value} {im : IM} {rm : RM}  : ev 80 162 [v0, v1, v2, v3, v4, v5, .int l1, v7, v8, v9, v10] st im rm = ev 80 164 [v0, v1, v2, v3, v4, v5, .int l1, v7, v8, v9, v10] (.int l1 :: st) (im) (rm) := ev_iload pm_m80 d80_162 rfl rfl
theorem d80_164 : decode prog_1_method_41_code 164 = .ok (.aload_n 0, 1) := by decide +kernel
theorem s80_164 {v1 v2 v3 v4 v5 v6 v7 v8 v9 v10 : Value} {l1 : Nat} {st : List Value} {im : IM} {rm : RM}  : ev 80 164 [.ref l1, v1, v2, v3, v4, v5, v6, v7, v8, v9, v10] st im rm = ev 80 165 [.ref l1, v1, v2, v3, v4, v5, v6, v7, v8, v9, v10] (.ref l1 :: st) (im) (rm) := ev_aload_n pm_m80 d80_164 rfl rfl
theorem d80_165 : decode prog_1_method_41_code 165 = .ok (.getfield 43, 3) := by decide +kernel
theorem s80_165 {v0 v1 v2 v3 v4 v5 v6 v7 v8 v9 v10 : Value} {a : Nat} {st : List Value} {im : IM} {rm : RM} (hk : kd a = 17) : ev 80 165 [v0, v1, v2, v3, v4, v5, v6, v7, v8, v9, v10] (.ref a :: st) im rm = ev 80 168 [v0, v1, v2, v3, v4, v5, v6, v7, v8, v9, v10] (pm_ro (rm a 5) :: st) (im) (rm) := ev_getR pm_m80 d80_165 f7_43 rfl hk rfl
theorem d80_168 : decode prog_1_method_41_code 168 = .ok (.iconst 1, 1) := by decide +kernel
theorem s80_168 {v0 v1 v2 v3 v4 v5 v6 v7 v8 v9 v10 : Value}  {st : List Value} {im : IM} {rm : RM}  : ev 80 168 [v0, v1, v2, v3, v4, v5, v6, v7, v8, v9, v10] st im rm = ev 80 169 [v0, v1, v2, v3, v4, v5, v6, v7, v8, v9, v10] (.int (nI 1) :: st) (im) (rm) := ev_iconst pm_m80 d80_168 rfl rfl
theorem d80_169 : decode prog_1_method_41_code 169 = .ok (.iaload, 1) := by decide +kernel
theorem s80_169 {v0 v1 v2 v3 v4 v5 v6 v7 v8 v9 v10 : Value} {a : Nat} {i : Int32} {st : List Value} {im : IM} {rm : RM} (hk : kd a = 0) (hi : pm_in i (ln a) = true) : ev 80 169 [v0, v1, v2, v3, v4, v5, v6, v7, v8, v9, v10] (.int i :: .ref a :: st) im rm = ev 80 170 [v0, v1, v2, v3, v4, v5, v6, v7, v8, v9, v10] (.int (im a i.toNatClampNeg) :: st) (im) (rm) := ev_iald pm_m80 d80_169 hk hi rfl
theorem d80_170 : decode prog_1_method_41_code 170 = .ok (.invokevirtual 332, 3) := by decide +kernel
theorem s80_170 {v0 v1 v2 v3 v4 v5 v6 v7 v8 v9 v10 : Value} {a : Nat} {p1 : Int32} {p2 : Int32} {r3 : Int32} {r4 : Int32} {r5 : Int32} {r6 : Nat} {im : IM} {rm : RM} (hk : kd a = 10) : ev 80 170 [v0, v1, v2, v3, v4, v5, v6, v7, v8, v9, v10] [.int p2, .int p1, .ref a, .int r3, .int r4, .int r5, .ref r6] im rm = (ev 5 0 [.ref a, .int p1, .int p2] [] im rm).bind (fun r => ev 80 173 [v0, v1, v2, v3, v4, v5, v6, v7, v8, v9, v10] (r.1.toList ++ [.int r3, .int r4, .int r5, .ref r6]) r.2.1 r.2.2) := ev_callV pm_m80 d80_170 l7_332 rfl pm_m5 (by decide) hk rfl ⟨rfl, rfl⟩ rfl rfl
theorem d80_173 : decode prog_1_method_41_code 173 = .ok (.invokevirtual 335, 3) := by decide +kernel
theorem s80_173 {v0 v1 v2 v3 v4 v5 v6 v7 v8 v9 v10 : Value} {a : Nat} {p1 : Int32} {p2 : Int32} {p3 : Int32} {p4 : Int32} {im : IM} {rm : RM} (hk : kd a = 13) : ev 80 173 [v0, v1, v2, v3, v4, v5, v6, v7, v8, v9, v10] [.int p4, .int p3, .int p2, .int p1, .ref a] im rm = (ev 13 0 [.ref a, .int p1, .int p2, .int p3, .int p4, pm_u] [] im rm).bind (fun r => ev 80 176 [v0, v1, v2, v3, v4, v5, v6, v7, v8, v9, v10] (r.1.toList ++ []) r.2.1 r.2.2) := ev_callV pm_m80 d80_173 l7_335 rfl pm_m13 (by decide) hk rfl ⟨rfl, rfl⟩ rfl rfl
theorem d80_176 : decode prog_1_method_41_code 176 = .ok (.iinc 6 1, 3) := by decide +kernel
theorem s80_176 {v0 v1 v2 v3 v4 v7 v8 v9 v10 : Value} {l1 : Int32} {l2 : Int32} {st : List Value} {im : IM} {rm : RM}  : ev 80 176 [v0, v1, v2, v3, v4, .int l1, .int l2, v7, v8, v9, v10] st im rm = ev 80 179 [v0, v1, v2, v3, v4, .int l1, .int (l2 + nI 1), v7, v8, v9, v10] st (im) (rm) := ev_iinc pm_m80 d80_176 rfl rfl rfl rfl
theorem d80_179 : decode prog_1_method_41_code 179 = .ok (.goto (-146), 3) := by decide +kernel
theorem s80_179 {v0 v1 v2 v3 v4 v5 v6 v7 v8 v9 v10 : Value}  {st : List Value} {im : IM} {rm : RM}  : ev 80 179 [v0, v1, v2, v3, v4, v5, v6, v7, v8, v9, v10] st im rm = ev 80 33 [v0, pm_u, pm_u, v3, v4, v5, v6, pm_u, pm_u, pm_u, pm_u] st (im) (rm) := ev_goto pm_m80 d80_179 rfl rfl
theorem d80_182 : decode prog_1_method_41_code 182 = .ok (.return_, 1) := by decide +kernel
theorem s80_182 {v0 v1 v2 v3 v4 v5 v6 v7 v8 v9 v10 : Value} {im : IM} {rm : RM} : ev 80 182 [v0, v1, v2, v3, v4, v5, v6, v7, v8, v9, v10] [] im rm = some (none, im, rm) := ev_return pm_m80 d80_182 rfl
theorem d81_0 : decode prog_1_method_42_code 0 = .ok (.iconst 0, 1) := by decide +kernel
theorem s81_0 {v0 v1 v2 : Value}  {st : List Value} {im : IM} {rm : RM}  : ev 81 0 [v0, v1, v2] st im rm = ev 81 1 [v0, v1, v2] (.int (nI 0) :: st) (im) (rm) := ev_iconst pm_m81 d81_0 rfl rfl
theorem d81_1 : decode prog_1_method_42_code 1 = .ok (.istore_n 2, 1) := by decide +kernel
theorem s81_1 {v0 v2 : Value} {l1 : Int32} {x2 : Int32} {st : List Value} {im : IM} {rm : RM}  : ev 81 1 [v0, .int l1, v2] (.int x2 :: st) im rm = ev 81 2 [v0, .int l1, .int x2] st (im) (rm) := ev_istore_n pm_m81 d81_1 (Nat.le_of_ble_eq_true rfl) rfl rfl
theorem d81_2 : decode prog_1_method_42_code 2 = .ok (.iload_n 2, 1) := by decide +kernel
theorem s81_2 {v0 v1 : Value} {l1 : Int32} {st : List Value} {im : IM} {rm : RM}  : ev 81 2 [v0, v1, .int l1] st im rm = ev 81 3 [v0, v1, .int l1] (.int l1 :: st) (im) (rm) := ev_iload_n pm_m81 d81_2 rfl rfl
theorem d81_3 : decode prog_1_method_42_code 3 = .ok (.bipush 6, 2) := by decide +kernel
theorem s81_3 {v0 v1 v2 : Value}  {st : List Value} {im : IM} {rm : RM}  : ev 81 3 [v0, v1, v2] st im rm = ev 81 5 [v0, v1, v2] (.int (nI 6) :: st) (im) (rm) := ev_bipush pm_m81 d81_3 rfl rfl
theorem d81_5 : decode prog_1_method_42_code 5 = .ok (.if_icmp .ge 45, 3) := by decide +kernel
theorem s81_5 {v0 v1 v2 : Value} {x : Int32} {y : Int32} {st : List Value} {im : IM} {rm : RM} : ev 81 5 [v0, v1, v2] (.int y :: .int x :: st) im rm = if y ≤ x then ev 81 50 [pm_u, pm_u, pm_u] st im rm else ev 81 8 [v0, v1, v2] st im rm := ev_icmp_ge pm_m81 d81_5 rfl rfl rfl
theorem d81_8 : decode prog_1_method_42_code 8 = .ok (.aload_n 0, 1) := by decide +kernel
theorem s81_8 {v1 v2 : Value} {l1 : Nat} {st : List Value} {im : IM} {rm : RM}  : ev 81 8 [.ref l1, v1, v2] st im rm = ev 81 9 [.ref l1, v1, v2] (.ref l1 :: st) (im) (rm) := ev_aload_n pm_m81 d81_8 rfl rfl
theorem d81_9 : decode prog_1_method_42_code 9 = .ok (.iload_n 1, 1) := by decide +kernel
theorem s81_9 {v0 v2 : Value} {l1 : Int32} {st : List Value} {im : IM} {rm : RM}  : ev 81 9 [v0, .int l1, v2] st im rm = ev 81 10 [v0, .int l1, v2] (.int l1 :: st) (im) (rm) := ev_iload_n pm_m81 d81_9 rfl rfl
theorem d81_10 : decode prog_1_method_42_code 10 = .ok (.iload_n 2, 1) := by decide +kernel
theorem s81_10 {v0 v1 : Value} {l1 : Int32} {st : List Value} {im : IM} {rm : RM}  : ev 81 10 [v0, v1, .int l1] st im rm = ev 81 11 [v0, v1, .int l1] (.int l1 :: st) (im) (rm) := ev_iload_n pm_m81 d81_10 rfl rfl
theorem d81_11 : decode prog_1_method_42_code 11 = .ok (.invokevirtual 164, 3) := by decide +kernel
theorem s81_11 {v0 v1 v2 : Value} {a : Nat} {p1 : Int32} {p2 : Int32} {im : IM} {rm : RM} (hk : kd a = 17) : ev 81 11 [v0, v1, v2] [.int p2, .int p1, .ref a] im rm = (ev 80 0 [.ref a, .int p1, .int p2, pm_u, pm_u, pm_u, pm_u, pm_u, pm_u, pm_u, pm_u] [] im rm).bind (fun r => ev 81 14 [v0, v1, v2] (r.1.toList ++ []) r.2.1 r.2.2) := ev_callV pm_m81 d81_11 l7_164 rfl pm_m80 (by decide) hk rfl ⟨rfl, rfl⟩ rfl rfl
theorem d81_14 : decode prog_1_method_42_code 14 = .ok (.aload_n 0, 1) := by decide +kernel
theorem s81_14 {v1 v2 : Value} {l1 : Nat} {st : List Value} {im : IM} {rm : RM}  : ev 81 14 [.ref l1, v1, v2] st im rm = ev 81 15 [.ref l1, v1, v2] (.ref l1 :: st) (im) (rm) := ev_aload_n pm_m81 d81_14 rfl rfl
theorem d81_15 : decode prog_1_method_42_code 15 = .ok (.getfield 90, 3) := by decide +kernel
theorem s81_15 {v0 v1 v2 : Value} {a : Nat} {st : List Value} {im : IM} {rm : RM} (hk : kd a = 17) : ev 81 15 [v0, v1, v2] (.ref a :: st) im rm = ev 81 18 [v0, v1, v2] (pm_ro (rm a 15) :: st) (im) (rm) := ev_getR pm_m81 d81_15 f7_90 rfl hk rfl
theorem d81_18 : decode prog_1_method_42_code 18 = .ok (.iload_n 1, 1) := by decide +kernel
theorem s81_18 {v0 v2 : Value} {l1 : Int32} {st : List Value} {im : IM} {rm : RM}  : ev 81 18 [v0, .int l1, v2] st im rm = ev 81 19 [v0, .int l1, v2] (.int l1 :: st) (im) (rm) := ev_iload_n pm_m81 d81_18 rfl rfl
theorem d81_19 : decode prog_1_method_42_code 19 = .ok (.aaload, 1) := by decide +kernel
theorem s81_19 {v0 v1 v2 : Value} {a : Nat} {i : Int32} {st : List Value} {im : IM} {rm : RM} (hk : 2 ≤ kd a ∧ kd a ≤ 5) (hi : pm_in i (ln a) = true) : ev 81 19 [v0, v1, v2] (.int i :: .ref a :: st) im rm = ev 81 20 [v0, v1, v2] (pm_ro (rm a i.toNatClampNeg) :: st) (im) (rm) := ev_aald pm_m81 d81_19 hk hi rfl
theorem d81_20 : decode prog_1_method_42_code 20 = .ok (.iload_n 2, 1) := by decide +kernel
theorem s81_20 {v0 v1 : Value} {l1 : Int32} {st : List Value} {im : IM} {rm : RM}  : ev 81 20 [v0, v1, .int l1] st im rm = ev 81 21 [v0, v1, .int l1] (.int l1 :: st) (im) (rm) := ev_iload_n pm_m81 d81_20 rfl rfl
theorem d81_21 : decode prog_1_method_42_code 21 = .ok (.aload_n 0, 1) := by decide +kernel
theorem s81_21 {v1 v2 : Value} {l1 : Nat} {st : List Value} {im : IM} {rm : RM}  : ev 81 21 [.ref l1, v1, v2] st im rm = ev 81 22 [.ref l1, v1, v2] (.ref l1 :: st) (im) (rm) := ev_aload_n pm_m81 d81_21 rfl rfl
theorem d81_22 : decode prog_1_method_42_code 22 = .ok (.getfield 83, 3) := by decide +kernel
theorem s81_22 {v0 v1 v2 : Value} {a : Nat} {st : List Value} {im : IM} {rm : RM} (hk : kd a = 17) : ev 81 22 [v0, v1, v2] (.ref a :: st) im rm = ev 81 25 [v0, v1, v2] (pm_ro (rm a 13) :: st) (im) (rm) := ev_getR pm_m81 d81_22 f7_83 rfl hk rfl
theorem d81_25 : decode prog_1_method_42_code 25 = .ok (.getfield 188, 3) := by decide +kernel
theorem s81_25 {v0 v1 v2 : Value} {a : Nat} {st : List Value} {im : IM} {rm : RM} (hk : kd a = 13) : ev 81 25 [v0, v1, v2] (.ref a :: st) im rm = ev 81 28 [v0, v1, v2] (.int (im a 7) :: st) (im) (rm) := ev_getI pm_m81 d81_25 f7_188 rfl hk rfl
theorem d81_28 : decode prog_1_method_42_code 28 = .ok (.iastore, 1) := by decide +kernel
theorem s81_28 {v0 v1 v2 : Value} {a : Nat} {i : Int32} {v : Int32} {st : List Value} {im : IM} {rm : RM} (hk : kd a = 0) (hi : pm_in i (ln a) = true) : ev 81 28 [v0, v1, v2] (.int v :: .int i :: .ref a :: st) im rm = ev 81 29 [v0, v1, v2] st (pm_w2 im a i.toNatClampNeg v) (rm) := ev_iast pm_m81 d81_28 hk hi rfl
theorem d81_29 : decode prog_1_method_42_code 29 = .ok (.aload_n 0, 1) := by decide +kernel
theorem s81_29 {v1 v2 : Value} {l1 : Nat} {st : List Value} {im : IM} {rm : RM}  : ev 81 29 [.ref l1, v1, v2] st im rm = ev 81 30 [.ref l1, v1, v2] (.ref l1 :: st) (im) (rm) := ev_aload_n pm_m81 d81_29 rfl rfl
theorem d81_30 : decode prog_1_method_42_code 30 = .ok (.getfield 93, 3) := by decide +kernel
theorem s81_30 {v0 v1 v2 : Value} {a : Nat} {st : List Value} {im : IM} {rm : RM} (hk : kd a = 17) : ev 81 30 [v0, v1, v2] (.ref a :: st) im rm = ev 81 33 [v0, v1, v2] (pm_ro (rm a 16) :: st) (im) (rm) := ev_getR pm_m81 d81_30 f7_93 rfl hk rfl
theorem d81_33 : decode prog_1_method_42_code 33 = .ok (.iload_n 1, 1) := by decide +kernel
theorem s81_33 {v0 v2 : Value} {l1 : Int32} {st : List Value} {im : IM} {rm : RM}  : ev 81 33 [v0, .int l1, v2] st im rm = ev 81 34 [v0, .int l1, v2] (.int l1 :: st) (im) (rm) := ev_iload_n pm_m81 d81_33 rfl rfl
theorem d81_34 : decode prog_1_method_42_code 34 = .ok (.aaload, 1) := by decide +kernel
theorem s81_34 {v0 v1 v2 : Value} {a : Nat} {i : Int32} {st : List Value} {im : IM} {rm : RM} (hk : 2 ≤ kd a ∧ kd a ≤ 5) (hi : pm_in i (ln a) = true) : ev 81 34 [v0, v1, v2] (.int i :: .ref a :: st) im rm = ev 81 35 [v0, v1, v2] (pm_ro (rm a i.toNatClampNeg) :: st) (im) (rm) := ev_aald pm_m81 d81_34 hk hi rfl
theorem d81_35 : decode prog_1_method_42_code 35 = .ok (.iload_n 2, 1) := by decide +kernel
theorem s81_35 {v0 v1 : Value} {l1 : Int32} {st : List Value} {im : IM} {rm : RM}  : ev 81 35 [v0, v1, .int l1] st im rm = ev 81 36 [v0, v1, .int l1] (.int l1 :: st) (im) (rm) := ev_iload_n pm_m81 d81_35 rfl rfl
theorem d81_36 : decode prog_1_method_42_code 36 = .ok (.aload_n 0, 1) := by decide +kernel
theorem s81_36 {v1 v2 : Value} {l1 : Nat} {st : List Value} {im : IM} {rm : RM}  : ev 81 36 [.ref l1, v1, v2] st im rm = ev 81 37 [.ref l1, v1, v2] (.ref l1 :: st) (im) (rm) := ev_aload_n pm_m81 d81_36 rfl rfl
theorem d81_37 : decode prog_1_method_42_code 37 = .ok (.getfield 83, 3) := by decide +kernel
theorem s81_37 {v0 v1 v2 : Value} {a : Nat} {st : List Value} {im : IM} {rm : RM} (hk : kd a = 17) : ev 81 37 [v0, v1, v2] (.ref a :: st) im rm = ev 81 40 [v0, v1, v2] (pm_ro (rm a 13) :: st) (im) (rm) := ev_getR pm_m81 d81_37 f7_83 rfl hk rfl
theorem d81_40 : decode prog_1_method_42_code 40 = .ok (.getfield 182, 3) := by decide +kernel
theorem s81_40 {v0 v1 v2 : Value} {a : Nat} {st : List Value} {im : IM} {rm : RM} (hk : kd a = 13) : ev 81 40 [v0, v1, v2] (.ref a :: st) im rm = ev 81 43 [v0, v1, v2] (.int (im a 5) :: st) (im) (rm) := ev_getI pm_m81 d81_40 f7_182 rfl hk rfl
theorem d81_43 : decode prog_1_method_42_code 43 = .ok (.iastore, 1) := by decide +kernel
theorem s81_43 {v0 v1 v2 : Value} {a : Nat} {i : Int32} {v : Int32} {st : List Value} {im : IM} {rm : RM} (hk : kd a = 0) (hi : pm_in i (ln a) = true) : ev 81 43 [v0, v1, v2] (.int v :: .int i :: .ref a :: st) im rm = ev 81 44 [v0, v1, v2] st (pm_w2 im a i.toNatClampNeg v) (rm) := ev_iast pm_m81 d81_43 hk hi rfl
theorem d81_44 : decode prog_1_method_42_code 44 = .ok (.iinc 2 1, 3) := by decide +kernel
theorem s81_44 {v0 : Value} {l1 : Int32} {l2 : Int32} {st : List Value} {im : IM} {rm : RM}  : ev 81 44 [v0, .int l1, .int l2] st im rm = ev 81 47 [v0, .int l1, .int (l2 + nI 1)] st (im) (rm) := ev_iinc pm_m81 d81_44 rfl rfl rfl rfl
theorem d81_47 : decode prog_1_method_42_code 47 = .ok (.goto (-45), 3) := by decide +kernel
theorem s81_47 {v0 v1 v2 : Value}  {st : List Value} {im : IM} {rm : RM}  : ev 81 47 [v0, v1, v2] st im rm = ev 81 2 [v0, v1, v2] st (im) (rm) := ev_goto pm_m81 d81_47 rfl rfl
theorem d81_50 : decode prog_1_method_42_code 50 = .ok (.return_, 1) := by decide +kernel
theorem s81_50 {v0 v1 v2 : Value} {im : IM} {rm : RM} : ev 81 50 [v0, v1, v2] [] im rm = some (none, im, rm) := ev_return pm_m81 d81_50 rfl
theorem d82_0 : decode prog_1_method_43_code 0 = .ok (.iconst 0, 1) := by decide +kernel
theorem s82_0 {v0 v1 : Value}  {st : List Value} {im : IM} {rm : RM}  : ev 82 0 [v0, v1] st im rm = ev 82 1 [v0, v1] (.int (nI 0) :: st) (im) (rm) := ev_iconst pm_m82 d82_0 rfl rfl
theorem d82_1 : decode prog_1_method_43_code 1 = .ok (.istore_n 1, 1) := by decide +kernel
theorem s82_1 {v1 : Value} {l1 : Nat} {x2 : Int32} {st : List Value} {im : IM} {rm : RM}  : ev 82 1 [.ref l1, v1] (.int x2 :: st) im rm = ev 82 2 [.ref l1, .int x2] st (im) (rm) := ev_istore_n pm_m82 d82_1 (Nat.le_of_ble_eq_true rfl) rfl rfl
theorem d82_2 : decode prog_1_method_43_code 2 = .ok (.iload_n 1, 1) := by decide +kernel
theorem s82_2 {v0 : Value} {l1 : Int32} {st : List Value} {im : IM} {rm : RM}  : ev 82 2 [v0, .int l1] st im rm = ev 82 3 [v0, .int l1] (.int l1 :: st) (im) (rm) := ev_iload_n pm_m82 d82_2 rfl rfl
theorem d82_3 : decode prog_1_method_43_code 3 = .ok (.iconst 4, 1) := by decide +kernel
theorem s82_3 {v0 v1 : Value}  {st : List Value} {im : IM} {rm : RM}  : ev 82 3 [v0, v1] st im rm = ev 82 4 [v0, v1] (.int (nI 4) :: st) (im) (rm) := ev_iconst pm_m82 d82_3 rfl rfl
theorem d82_4 : decode prog_1_method_43_code 4 = .ok (.if_icmp .ge 14, 3) := by decide +kernel
theorem s82_4 {v0 v1 : Value} {x : Int32} {y : Int32} {st : List Value} {im : IM} {rm : RM} : ev 82 4 [v0, v1] (.int y :: .int x :: st) im rm = if y ≤ x then ev 82 18 [pm_u, pm_u] st im rm else ev 82 7 [v0, v1] st im rm := ev_icmp_ge pm_m82 d82_4 rfl rfl rfl
theorem d82_7 : decode prog_1_method_43_code 7 = .ok (.aload_n 0, 1) := by decide +kernel
theorem s82_7 {v1 : Value} {l1 : Nat} {st : List Value} {im : IM} {rm : RM}  : ev 82 7 [.ref l1, v1] st im rm = ev 82 8 [.ref l1, v1] (.ref l1 :: st) (im) (rm) := ev_aload_n pm_m82 d82_7 rfl rfl
theorem d82_8 : decode prog_1_method_43_code 8 = .ok (.iload_n 1, 1) := by decide +kernel
theorem s82_8 {v0 : Value} {l1 : Int32} {st : List Value} {im : IM} {rm : RM}  : ev 82 8 [v0, .int l1] st im rm = ev 82 9 [v0, .int l1] (.int l1 :: st) (im) (rm) := ev_iload_n pm_m82 d82_8 rfl rfl
theorem d82_9 : decode prog_1_method_43_code 9 = .ok (.invokevirtual 240, 3) := by decide +kernel
theorem s82_9 {v0 v1 : Value} {a : Nat} {p1 : Int32} {im : IM} {rm : RM} (hk : kd a = 17) : ev 82 9 [v0, v1] [.int p1, .ref a] im rm = (ev 81 0 [.ref a, .int p1, pm_u] [] im rm).bind (fun r => ev 82 12 [v0, v1] (r.1.toList ++ []) r.2.1 r.2.2) := ev_callV pm_m82 d82_9 l7_240 rfl pm_m81 (by decide) hk rfl ⟨rfl, rfl⟩ rfl rfl
theorem d82_12 : decode prog_1_method_43_code 12 = .ok (.iinc 1 1, 3) := by decide +kernel
theorem s82_12 {l1 : Nat} {l2 : Int32} {st : List Value} {im : IM} {rm : RM}  : ev 82 12 [.ref l1, .int l2] st im rm = ev 82 15 [.ref l1, .int (l2 + nI 1)] st (im) (rm) := ev_iinc pm_m82 d82_12 rfl rfl rfl rfl
theorem d82_15 : decode prog_1_method_43_code 15 = .ok (.goto (-13), 3) := by decide +kernel
theorem s82_15 {v0 v1 : Value}  {st : List Value} {im : IM} {rm : RM}  : ev 82 15 [v0, v1] st im rm = ev 82 2 [v0, v1] st (im) (rm) := ev_goto pm_m82 d82_15 rfl rfl
theorem d82_18 : decode prog_1_method_43_code 18 = .ok (.return_, 1) := by decide +kernel
theorem s82_18 {v0 v1 : Value} {im : IM} {rm : RM} : ev 82 18 [v0, v1] [] im rm = some (none, im, rm) := ev_return pm_m82 d82_18 rfl
theorem d83_0 : decode prog_1_method_44_code 0 = .ok (.iconst 0, 1) := by decide +kernel
theorem s83_0 {v0 v1 v2 v3 : Value}  {st : List Value} {im : IM} {rm : RM}  : ev 83 0 [v0, v1, v2, v3] st im rm = ev 83 1 [v0, v1, v2, v3] (.int (nI 0) :: st) (im) (rm) := ev_iconst pm_m83 d83_0 rfl rfl
theorem d83_1 : decode prog_1_method_44_code 1 = .ok (.istore_n 2, 1) := by decide +kernel
theorem s83_1 {v0 v2 v3 : Value} {l1 : Int32} {x2 : Int32} {st : List Value} {im : IM} {rm : RM}  : ev 83 1 [v0, .int l1, v2, v3] (.int x2 :: st) im rm = ev 83 2 [v0, .int l1, .int x2, v3] st (im) (rm) := ev_istore_n pm_m83 d83_1 (Nat.le_of_ble_eq_true rfl) rfl rfl
theorem d83_2 : decode prog_1_method_44_code 2 = .ok (.iconst 0, 1) := by decide +kernel
theorem s83_2 {v0 v1 v2 v3 : Value}  {st : List Value} {im : IM} {rm : RM}  : ev 83 2 [v0, v1, v2, v3] st im rm = ev 83 3 [v0, v1, v2, v3] (.int (nI 0) :: st) (im) (rm) := ev_iconst pm_m83 d83_2 rfl rfl
theorem d83_3 : decode prog_1_method_44_code 3 = .ok (.istore_n 3, 1) := by decide +kernel
theorem s83_3 {v0 v1 v3 : Value} {l1 : Int32} {x2 : Int32} {st : List Value} {im : IM} {rm : RM}  : ev 83 3 [v0, v1, .int l1, v3] (.int x2 :: st) im rm = ev 83 4 [v0, v1, .int l1, .int x2] st (im) (rm) := ev_istore_n pm_m83 d83_3 (Nat.le_of_ble_eq_true rfl) rfl rfl
theorem d83_4 : decode prog_1_method_44_code 4 = .ok (.iload_n 3, 1) := by decide +kernel
theorem s83_4 {v0 v1 v2 : Value} {l1 : Int32} {st : List Value} {im : IM} {rm : RM}  : ev 83 4 [v0, v1, v2, .int l1] st im rm = ev 83 5 [v0, v1, v2, .int l1] (.int l1 :: st) (im) (rm) := ev_iload_n pm_m83 d83_4 rfl rfl
theorem d83_5 : decode prog_1_method_44_code 5 = .ok (.bipush 6, 2) := by decide +kernel
theorem s83_5 {v0 v1 v2 v3 : Value}  {st : List Value} {im : IM} {rm : RM}  : ev 83 5 [v0, v1, v2, v3] st im rm = ev 83 7 [v0, v1, v2, v3] (.int (nI 6) :: st) (im) (rm) := ev_bipush pm_m83 d83_5 rfl rfl
theorem d83_7 : decode prog_1_method_44_code 7 = .ok (.if_icmp .ge 33, 3) := by decide +kernel
theorem s83_7 {v0 v1 v2 v3 : Value} {x : Int32} {y : Int32} {st : List Value} {im : IM} {rm : RM} : ev 83 7 [v0, v1, v2, v3] (.int y :: .int x :: st) im rm = if y ≤ x then ev 83 40 [pm_u, pm_u, v2, pm_u] st im rm else ev 83 10 [v0, v1, v2, v3] st im rm := ev_icmp_ge pm_m83 d83_7 rfl rfl rfl
theorem d83_10 : decode prog_1_method_44_code 10 = .ok (.aload_n 0, 1) := by decide +kernel
theorem s83_10 {v1 v2 v3 : Value} {l1 : Nat} {st : List Value} {im : IM} {rm : RM}  : ev 83 10 [.ref l1, v1, v2, v3] st im rm = ev 83 11 [.ref l1, v1, v2, v3] (.ref l1 :: st) (im) (rm) := ev_aload_n pm_m83 d83_10 rfl rfl
theorem d83_11 : decode prog_1_method_44_code 11 = .ok (.getfield 11, 3) := by decide +kernel
theorem s83_11 {v0 v1 v2 v3 : Value} {a : Nat} {st : List Value} {im : IM} {rm : RM} (hk : kd a = 17) : ev 83 11 [v0, v1, v2, v3] (.ref a :: st) im rm = ev 83 14 [v0, v1, v2, v3] (pm_ro (rm a 0) :: st) (im) (rm) := ev_getR pm_m83 d83_11 f7_11 rfl hk rfl
theorem d83_14 : decode prog_1_method_44_code 14 = .ok (.iload_n 3, 1) := by decide +kernel
theorem s83_14 {v0 v1 v2 : Value} {l1 : Int32} {st : List Value} {im : IM} {rm : RM}  : ev 83 14 [v0, v1, v2, .int l1] st im rm = ev 83 15 [v0, v1, v2, .int l1] (.int l1 :: st) (im) (rm) := ev_iload_n pm_m83 d83_14 rfl rfl
theorem d83_15 : decode prog_1_method_44_code 15 = .ok (.aaload, 1) := by decide +kernel
theorem s83_15 {v0 v1 v2 v3 : Value} {a : Nat} {i : Int32} {st : List Value} {im : IM} {rm : RM} (hk : 2 ≤ kd a ∧ kd a ≤ 5) (hi : pm_in i (ln a) = true) : ev 83 15 [v0, v1, v2, v3] (.int i :: .ref a :: st) im rm = ev 83 16 [v0, v1, v2, v3] (pm_ro (rm a i.toNatClampNeg) :: st) (im) (rm) := ev_aald pm_m83 d83_15 hk hi rfl
theorem d83_16 : decode prog_1_method_44_code 16 = .ok (.getfield 246, 3) := by decide +kernel
theorem s83_16 {v0 v1 v2 v3 : Value} {a : Nat} {st : List Value} {im : IM} {rm : RM} (hk : kd a = 10) : ev 83 16 [v0, v1, v2, v3] (.ref a :: st) im rm = ev 83 19 [v0, v1, v2, v3] (.int (im a 0) :: st) (im) (rm) := ev_getI pm_m83 d83_16 f7_246 rfl hk rfl
theorem d83_19 : decode prog_1_method_44_code 19 = .ok (.iconst 1, 1) := by decide +kernel
theorem s83_19 {v0 v1 v2 v3 : Value}  {st : List Value} {im : IM} {rm : RM}  : ev 83 19 [v0, v1, v2, v3] st im rm = ev 83 20 [v0, v1, v2, v3] (.int (nI 1) :: st) (im) (rm) := ev_iconst pm_m83 d83_19 rfl rfl
theorem d83_20 : decode prog_1_method_44_code 20 = .ok (.if_icmp .ne 14, 3) := by decide +kernel
theorem s83_20 {v0 v1 v2 v3 : Value} {x : Int32} {y : Int32} {st : List Value} {im : IM} {rm : RM} : ev 83 20 [v0, v1, v2, v3] (.int y :: .int x :: st) im rm = if x = y then ev 83 23 [v0, v1, v2, v3] st im rm else ev 83 34 [v0, v1, v2, v3] st im rm := ev_icmp_ne pm_m83 d83_20 rfl rfl rfl
theorem d83_23 : decode prog_1_method_44_code 23 = .ok (.iload_n 2, 1) := by decide +kernel
theorem s83_23 {v0 v1 v3 : Value} {l1 : Int32} {st : List Value} {im : IM} {rm : RM}  : ev 83 23 [v0, v1, .int l1, v3] st im rm = ev 83 24 [v0, v1, .int l1, v3] (.int l1 :: st) (im) (rm) := ev_iload_n pm_m83 d83_23 rfl rfl
theorem d83_24 : decode prog_1_method_44_code 24 = .ok (.aload_n 0, 1) := by decide +kernel
theorem s83_24 {v1 v2 v3 : Value} {l1 : Nat} {st : List Value} {im : IM} {rm : RM}  : ev 83 24 [.ref l1, v1, v2, v3] st im rm = ev 83 25 [.ref l1, v1, v2, v3] (.ref l1 :: st) (im) (rm) := ev_aload_n pm_m83 d83_24 rfl rfl
theorem d83_25 : decode prog_1_method_44_code 25 = .ok (.getfield 93, 3) := by decide +kernel
theorem s83_25 {v0 v1 v2 v3 : Value} {a : Nat} {st : List Value} {im : IM} {rm : RM} (hk : kd a = 17) : ev 83 25 [v0, v1, v2, v3] (.ref a :: st) im rm = ev 83 28 [v0, v1, v2, v3] (pm_ro (rm a 16) :: st) (im) (rm) := ev_getR pm_m83 d83_25 f7_93 rfl hk rfl
theorem d83_28 : decode prog_1_method_44_code 28 = .ok (.iload_n 1, 1) := by decide +kernel
theorem s83_28 {v0 v2 v3 : Value} {l1 : Int32} {st : List Value} {im : IM} {rm : RM}  : ev 83 28 [v0, .int l1, v2, v3] st im rm = ev 83 29 [v0, .int l1, v2, v3] (.int l1 :: st) (im) (rm) := ev_iload_n pm_m83 d83_28 rfl rfl
theorem d83_29 : decode prog_1_method_44_code 29 = .ok (.aaload, 1) := by decide +kernel
theorem s83_29 {v0 v1 v2 v3 : Value} {a : Nat} {i : Int32} {st : List Value} {im : IM} {rm : RM} (hk : 2 ≤ kd a ∧ kd a ≤ 5) (hi : pm_in i (ln a) = true) : ev 83 29 [v0, v1, v2, v3] (.int i :: .ref a :: st) im rm = ev 83 30 [v0, v1, v2, v3] (pm_ro (rm a i.toNatClampNeg) :: st) (im) (rm) := ev_aald pm_m83 d83_29 hk hi rfl
theorem d83_30 : decode prog_1_method_44_code 30 = .ok (.iload_n 3, 1) := by decide +kernel
theorem s83_30 {v0 v1 v2 : Value} {l1 : Int32} {st : List Value} {im : IM} {rm : RM}  : ev 83 30 [v0, v1, v2, .int l1] st im rm = ev 83 31 [v0, v1, v2, .int l1] (.int l1 :: st) (im) (rm) := ev_iload_n pm_m83 d83_30 rfl rfl
theorem d83_31 : decode prog_1_method_44_code 31 = .ok (.iaload, 1) := by decide +kernel
theorem s83_31 {v0 v1 v2 v3 : Value} {a : Nat} {i : Int32} {st : List Value} {im : IM} {rm : RM} (hk : kd a = 0) (hi : pm_in i (ln a) = true) : ev 83 31 [v0, v1, v2, v3] (.int i :: .ref a :: st) im rm = ev 83 32 [v0, v1, v2, v3] (.int (im a i.toNatClampNeg) :: st) (im) (rm) := ev_iald pm_m83 d83_31 hk hi rfl
theorem d83_32 : decode prog_1_method_44_code 32 = .ok (.iadd, 1) := by decide +kernel
theorem s83_32 {v0 v1 v2 v3 : Value} {x : Int32} {y : Int32} {st : List Value} {im : IM} {rm : RM}  : ev 83 32 [v0, v1, v2, v3] (.int y :: .int x :: st) im rm = ev 83 33 [v0, v1, v2, v3] (.int (x + y) :: st) (im) (rm) := ev_iadd pm_m83 d83_32 rfl
theorem d83_33 : decode prog_1_method_44_code 33 = .ok (.istore_n 2, 1) := by decide +kernel
theorem s83_33 {v0 v2 v3 : Value} {l1 : Int32} {x2 : Int32} {st : List Value} {im : IM} {rm : RM}  : ev 83 33 [v0, .int l1, v2, v3] (.int x2 :: st) im rm = ev 83 34 [v0, .int l1, .int x2, v3] st (im) (rm) := ev_istore_n pm_m83 d83_33 (Nat.le_of_ble_eq_true rfl) rfl rfl
theorem d83_34 : decode prog_1_method_44_code 34 = .ok (.iinc 3 1, 3) := by decide +kernel
theorem s83_34 {v0 v1 : Value} {l1 : Int32} {l2 : Int32} {st : List Value} {im : IM} {rm : RM}  : ev 83 34 [v0, v1, .int l1, .int l2] st im rm = ev 83 37 [v0, v1, .int l1, .int (l2 + nI 1)] st (im) (rm) := ev_iinc pm_m83 d83_34 rfl rfl rfl rfl
theorem d83_37 : decode prog_1_method_44_code 37 = .ok (.goto (-33), 3) := by decide +kernel
theorem s83_37 {v0 v1 v2 v3 : Value}  {st : List Value} {im : IM} {rm : RM}  : ev 83 37 [v0, v1, v2, v3] st im rm = ev 83 4 [v0, v1, v2, v3] st (im) (rm) := ev_goto pm_m83 d83_37 rfl rfl
theorem d83_40 : decode prog_1_method_44_code 40 = .ok (.iload_n 2, 1) := by decide +kernel
theorem s83_40 {v0 v1 v3 : Value} {l1 : Int32} {st : List Value} {im : IM} {rm : RM}  : ev 83 40 [v0, v1, .int l1, v3] st im rm = ev 83 41 [v0, v1, .int l1, v3] (.int l1 :: st) (im) (rm) := ev_iload_n pm_m83 d83_40 rfl rfl
theorem d83_41 : decode prog_1_method_44_code 41 = .ok (.ireturn, 1) := by decide +kernel
theorem s83_41 {v0 v1 v2 v3 : Value} {x : Int32} {im : IM} {rm : RM} : ev 83 41 [v0, v1, v2, v3] [.int x] im rm = some (some (.int x), im, rm) := ev_ireturn pm_m83 d83_41 rfl
theorem d84_0 : decode prog_1_method_45_code 0 = .ok (.iconst 0, 1) := by decide +kernel
theorem s84_0 {v0 v1 v2 v3 v4 v5 : Value}  {st : List Value} {im : IM} {rm : RM}  : ev 84 0 [v0, v1, v2, v3, v4, v5] st im rm = ev 84 1 [v0, v1, v2, v3, v4, v5] (.int (nI 0) :: st) (im) (rm) := ev_iconst pm_m84 d84_0 rfl rfl
theorem d84_1 : decode prog_1_method_45_code 1 = .ok (.istore 4, 2) := by decide +kernel
theorem s84_1 {v0 v1 v2 v4 v5 : Value} {l1 : Int32} {x2 : Int32} {st : List Value} {im : IM} {rm : RM}  : ev 84 1 [v0, v1, v2, .int l1, v4, v5] (.int x2 :: st) im rm = ev 84 3 [v0, v1, v2, .int l1, .int x2, v5] st (im) (rm) := ev_istore pm_m84 d84_1 (Nat.le_of_ble_eq_true rfl) rfl rfl
theorem d84_3 : decode prog_1_method_45_code 3 = .ok (.iconst 0, 1) := by decide +kernel
theorem s84_3 {v0 v1 v2 v3 v4 v5 : Value}  {st : List Value} {im : IM} {rm : RM}  : ev 84 3 [v0, v1, v2, v3, v4, v5] st im rm = ev 84 4 [v0, v1, v2, v3, v4, v5] (.int (nI 0) :: st) (im) (rm) := ev_iconst pm_m84 d84_3 rfl rfl
theorem d84_4 : decode prog_1_method_45_code 4 = .ok (.istore 5, 2) := by decide +kernel
theorem s84_4 {v0 v1 v2 v3 v5 : Value} {l1 : Int32} {x2 : Int32} {st : List Value} {im : IM} {rm : RM}  : ev 84 4 [v0, v1, v2, v3, .int l1, v5] (.int x2 :: st) im rm = ev 84 6 [v0, v1, v2, v3, .int l1, .int x2] st (im) (rm) := ev_istore pm_m84 d84_4 (Nat.le_of_ble_eq_true rfl) rfl rfl
theorem d84_6 : decode prog_1_method_45_code 6 = .ok (.iload 5, 2) := by decide +kernel
theorem s84_6 {v0 v1 v2 v3 v4 : Value} {l1 : Int32} {st : List Value} {im : IM} {rm : RM}  : ev 84 6 [v0, v1, v2, v3, v4, .int l1] st im rm = ev 84 8 [v0, v1, v2, v3, v4, .int l1] (.int l1 :: st) (im) (rm) := ev_iload pm_m84 d84_6 rfl rfl
theorem d84_8 : decode prog_1_method_45_code 8 = .ok (.aload_n 2, 1) := by decide +kernel
theorem s84_8 {v0 v1 v3 v4 v5 : Value} {l1 : Nat} {st : List Value} {im : IM} {rm : RM}  : ev 84 8 [v0, v1, .ref l1, v3, v4, v5] st im rm = ev 84 9 [v0, v1, .ref l1, v3, v4, v5] (.ref l1 :: st) (im) (rm) := ev_aload_n pm_m84 d84_8 rfl rfl
theorem d84_9 : decode prog_1_method_45_code 9 = .ok (.getfield 120, 3) := by decide +kernel
theorem s84_9 {v0 v1 v2 v3 v4 v5 : Value} {a : Nat} {st : List Value} {im : IM} {rm : RM} (hk : kd a = 10) : ev 84 9 [v0, v1, v2, v3, v4, v5] (.ref a :: st) im rm = ev 84 12 [v0, v1, v2, v3, v4, v5] (.int (im a 2) :: st) (im) (rm) := ev_getI pm_m84 d84_9 f7_120 rfl hk rfl
theorem d84_12 : decode prog_1_method_45_code 12 = .ok (.if_icmp .ge 37, 3) := by decide +kernel
theorem s84_12 {v0 v1 v2 v3 v4 v5 : Value} {x : Int32} {y : Int32} {st : List Value} {im : IM} {rm : RM} : ev 84 12 [v0, v1, v2, v3, v4, v5] (.int y :: .int x :: st) im rm = if y ≤ x then ev 84 49 [pm_u, pm_u, pm_u, pm_u, v4, pm_u] st im rm else ev 84 15 [v0, v1, v2, v3, v4, v5] st im rm := ev_icmp_ge pm_m84 d84_12 rfl rfl rfl
theorem d84_15 : decode prog_1_method_45_code 15 = .ok (.aload_n 0, 1) := by decide +kernel
theorem s84_15 {v1 v2 v3 v4 v5 : Value} {l1 : Nat} {st : List Value} {im : IM} {rm : RM}  : ev 84 15 [.ref l1, v1, v2, v3, v4, v5] st im rm = ev 84 16 [.ref l1, v1, v2, v3, v4, v5] (.ref l1 :: st) (im) (rm) := ev_aload_n pm_m84 d84_15 rfl rfl
theorem d84_16 : decode prog_1_method_45_code 16 = .ok (.getfield 83, 3) := by decide +kernel
theorem s84_16 {v0 v1 v2 v3 v4 v5 : Value} {a : Nat} {st : List Value} {im : IM} {rm : RM} (hk : kd a = 17) : ev 84 16 [v0, v1, v2, v3, v4, v5] (.ref a :: st) im rm = ev 84 19 [v0, v1, v2, v3, v4, v5] (pm_ro (rm a 13) :: st) (im) (rm) := ev_getR pm_m84 d84_16 f7_83 rfl hk rfl
theorem d84_19 : decode prog_1_method_45_code 19 = .ok (.getfield 167, 3) := by decide +kernel
theorem s84_19 {v0 v1 v2 v3 v4 v5 : Value} {a : Nat} {st : List Value} {im : IM} {rm : RM} (hk : kd a = 13) : ev 84 19 [v0, v1, v2, v3, v4, v5] (.ref a :: st) im rm = ev 84 22 [v0, v1, v2, v3, v4, v5] (pm_ro (rm a 0) :: st) (im) (rm) := ev_getR pm_m84 d84_19 f7_167 rfl hk rfl
theorem d84_22 : decode prog_1_method_45_code 22 = .ok (.iload 5, 2) := by decide +kernel
theorem s84_22 {v0 v1 v2 v3 v4 : Value} {l1 : Int32} {st : List Value} {im : IM} {rm : RM}  : ev 84 22 [v0, v1, v2, v3, v4, .int l1] st im rm = ev 84 24 [v0, v1, v2, v3, v4, .int l1] (.int l1 :: st) (im) (rm) := ev_iload pm_m84 d84_22 rfl rfl
theorem d84_24 : decode prog_1_method_45_code 24 = .ok (.iaload, 1) := by decide +kernel
theorem s84_24 {v0 v1 v2 v3 v4 v5 : Value} {a : Nat} {i : Int32} {st : List Value} {im : IM} {rm : RM} (hk : kd a = 0) (hi : pm_in i (ln a) = true) : ev 84 24 [v0, v1, v2, v3, v4, v5] (.int i :: .ref a :: st) im rm = ev 84 25 [v0, v1, v2, v3, v4, v5] (.int (im a i.toNatClampNeg) :: st) (im) (rm) := ev_iald pm_m84 d84_24 hk hi rfl
theorem d84_25 : decode prog_1_method_45_code 25 = .ok (.iload_n 1, 1) := by decide +kernel
theorem s84_25 {v0 v2 v3 v4 v5 : Value} {l1 : Int32} {st : List Value} {im : IM} {rm : RM}  : ev 84 25 [v0, .int l1, v2, v3, v4, v5] st im rm = ev 84 26 [v0, .int l1, v2, v3, v4, v5] (.int l1 :: st) (im) (rm) := ev_iload_n pm_m84 d84_25 rfl rfl
theorem d84_26 : decode prog_1_method_45_code 26 = .ok (.if_icmp .eq 17, 3) := by decide +kernel
theorem s84_26 {v0 v1 v2 v3 v4 v5 : Value} {x : Int32} {y : Int32} {st : List Value} {im : IM} {rm : RM} : ev 84 26 [v0, v1, v2, v3, v4, v5] (.int y :: .int x :: st) im rm = if x = y then ev 84 43 [v0, v1, v2, v3, v4, v5] st im rm else ev 84 29 [v0, v1, v2, v3, v4, v5] st im rm := ev_icmp_eq pm_m84 d84_26 rfl rfl rfl
theorem d84_29 : decode prog_1_method_45_code 29 = .ok (.aload_n 2, 1) := by decide +kernel
theorem s84_29 {v0 v1 v3 v4 v5 : Value} {l1 : Nat} {st : List Value} {im : IM} {rm : RM}  : ev 84 29 [v0, v1, .ref l1, v3, v4, v5] st im rm = ev 84 30 [v0, v1, .ref l1, v3, v4, v5] (.ref l1 :: st) (im) (rm) := ev_aload_n pm_m84 d84_29 rfl rfl
theorem d84_30 : decode prog_1_method_45_code 30 = .ok (.getfield 339, 3) := by decide +kernel
theorem s84_30 {v0 v1 v2 v3 v4 v5 : Value} {a : Nat} {st : List Value} {im : IM} {rm : RM} (hk : kd a = 10) : ev 84 30 [v0, v1, v2, v3, v4, v5] (.ref a :: st) im rm = ev 84 33 [v0, v1, v2, v3, v4, v5] (pm_ro (rm a 8) :: st) (im) (rm) := ev_getR pm_m84 d84_30 f7_339 rfl hk rfl
theorem d84_33 : decode prog_1_method_45_code 33 = .ok (.iload 5, 2) := by decide +kernel
theorem s84_33 {v0 v1 v2 v3 v4 : Value} {l1 : Int32} {st : List Value} {im : IM} {rm : RM}  : ev 84 33 [v0, v1, v2, v3, v4, .int l1] st im rm = ev 84 35 [v0, v1, v2, v3, v4, .int l1] (.int l1 :: st) (im) (rm) := ev_iload pm_m84 d84_33 rfl rfl
theorem d84_35 : decode prog_1_method_45_code 35 = .ok (.iaload, 1) := by decide +kernel
theorem s84_35 {v0 v1 v2 v3 v4 v5 : Value} {a : Nat} {i : Int32} {st : List Value} {im : IM} {rm : RM} (hk : kd a = 0) (hi : pm_in i (ln a) = true) : ev 84 35 [v0, v1, v2, v3, v4, v5] (.int i :: .ref a :: st) im rm = ev 84 36 [v0, v1, v2, v3, v4, v5] (.int (im a i.toNatClampNeg) :: st) (im) (rm) := ev_iald pm_m84 d84_35 hk hi rfl
theorem d84_36 : decode prog_1_method_45_code 36 = .ok (.iload_n 3, 1) := by decide +kernel
theorem s84_36 {v0 v1 v2 v4 v5 : Value} {l1 : Int32} {st : List Value} {im : IM} {rm : RM}  : ev 84 36 [v0, v1, v2, .int l1, v4, v5] st im rm = ev 84 37 [v0, v1, v2, .int l1, v4, v5] (.int l1 :: st) (im) (rm) := ev_iload_n pm_m84 d84_36 rfl rfl
theorem d84_37 : decode prog_1_method_45_code 37 = .ok (.if_icmp .ge 6, 3) := by decide +kernel
theorem s84_37 {v0 v1 v2 v3 v4 v5 : Value} {x : Int32} {y : Int32} {st : List Value} {im : IM} {rm : RM} : ev 84 37 [v0, v1, v2, v3, v4, v5] (.int y :: .int x :: st) im rm = if y ≤ x then ev 84 43 [v0, v1, v2, v3, v4, v5] st im rm else ev 84 40 [v0, v1, v2, v3, v4, v5] st im rm := ev_icmp_ge pm_m84 d84_37 rfl rfl rfl
theorem d84_40 : decode prog_1_method_45_code 40 = .ok (.iinc 4 1, 3) := by decide +kernel
theorem s84_40 {v0 v1 v2 v5 : Value} {l1 : Int32} {l2 : Int32} {st : List Value} {im : IM} {rm : RM}  : ev 84 40 [v0, v1, v2, .int l1, .int l2, v5] st im rm = ev 84 43 [v0, v1, v2, .int l1, .int (l2 + nI 1), v5] st (im) (rm) := ev_iinc pm_m84 d84_40 rfl rfl rfl rfl
theorem d84_43 : decode prog_1_method_45_code 43 = .ok (.iinc 5 1, 3) := by decide +kernel
theorem s84_43 {v0 v1 v2 v3 : Value} {l1 : Int32} {l2 : Int32} {st : List Value} {im : IM} {rm : RM}  : ev 84 43 [v0, v1, v2, v3, .int l1, .int l2] st im rm = ev 84 46 [v0, v1, v2, v3, .int l1, .int (l2 + nI 1)] st (im) (rm) := ev_iinc pm_m84 d84_43 rfl rfl rfl rfl
theorem d84_46 : decode prog_1_method_45_code 46 = .ok (.goto (-40), 3) := by decide +kernel
theorem s84_46 {v0 v1 v2 v3 v4 v5 : Value}  {st : List Value} {im : IM} {rm : RM}  : ev 84 46 [v0, v1, v2, v3, v4, v5] st im rm = ev 84 6 [v0, v1, v2, v3, v4, v5] st (im) (rm) := ev_goto pm_m84 d84_46 rfl rfl
theorem d84_49 : decode prog_1_method_45_code 49 = .ok (.iload 4, 2) := by decide +kernel
theorem s84_49 {v0 v1 v2 v3 v5 : Value} {l1 : Int32} {st : List Value} {im : IM} {rm : RM}  : ev 84 49 [v0, v1, v2, v3, .int l1, v5] st im rm = ev 84 51 [v0, v1, v2, v3, .int l1, v5] (.int l1 :: st) (im) (rm) := ev_iload pm_m84 d84_49 rfl rfl
theorem d84_51 : decode prog_1_method_45_code 51 = .ok (.ireturn, 1) := by decide +kernel
theorem s84_51 {v0 v1 v2 v3 v4 v5 : Value} {x : Int32} {im : IM} {rm : RM} : ev 84 51 [v0, v1, v2, v3, v4, v5] [.int x] im rm = some (some (.int x), im, rm) := ev_ireturn pm_m84 d84_51 rfl
theorem d85_0 : decode prog_1_method_46_code 0 = .ok (.iload 5, 2) := by decide +kernel
theorem s85_0 {v0 v1 v2 v3 v4 v6 v7 : Value} {l1 : Int32} {st : List Value} {im : IM} {rm : RM}  : ev 85 0 [v0, v1, v2, v3, v4, .int l1, v6, v7] st im rm = ev 85 2 [v0, v1, v2, v3, v4, .int l1, v6, v7] (.int l1 :: st) (im) (rm) := ev_iload pm_m85 d85_0 rfl rfl
theorem d85_2 : decode prog_1_method_46_code 2 = .ok (.aload_n 2, 1) := by decide +kernel
theorem s85_2 {v0 v1 v3 v4 v5 v6 v7 : Value} {l1 : Nat} {st : List Value} {im : IM} {rm : RM}  : ev 85 2 [v0, v1, .ref l1, v3, v4, v5, v6, v7] st im rm = ev 85 3 [v0, v1, .ref l1, v3, v4, v5, v6, v7] (.ref l1 :: st) (im) (rm) := ev_aload_n pm_m85 d85_2 rfl rfl
theorem d85_3 : decode prog_1_method_46_code 3 = .ok (.getfield 213, 3) := by decide +kernel
theorem s85_3 {v0 v1 v2 v3 v4 v5 v6 v7 : Value} {a : Nat} {st : List Value} {im : IM} {rm : RM} (hk : kd a = 10) : ev 85 3 [v0, v1, v2, v3, v4, v5, v6, v7] (.ref a :: st) im rm = ev 85 6 [v0, v1, v2, v3, v4, v5, v6, v7] (pm_ro (rm a 6) :: st) (im) (rm) := ev_getR pm_m85 d85_3 f7_213 rfl hk rfl
theorem d85_6 : decode prog_1_method_46_code 6 = .ok (.iload 4, 2) := by decide +kernel
theorem s85_6 {v0 v1 v2 v3 v5 v6 v7 : Value} {l1 : Int32} {st : List Value} {im : IM} {rm : RM}  : ev 85 6 [v0, v1, v2, v3, .int l1, v5, v6, v7] st im rm = ev 85 8 [v0, v1, v2, v3, .int l1, v5, v6, v7] (.int l1 :: st) (im) (rm) := ev_iload pm_m85 d85_6 rfl rfl
theorem d85_8 : decode prog_1_method_46_code 8 = .ok (.iaload, 1) := by decide +kernel
theorem s85_8 {v0 v1 v2 v3 v4 v5 v6 v7 : Value} {a : Nat} {i : Int32} {st : List Value} {im : IM} {rm : RM} (hk : kd a = 0) (hi : pm_in i (ln a) = true) : ev 85 8 [v0, v1, v2, v3, v4, v5, v6, v7] (.int i :: .ref a :: st) im rm = ev 85 9 [v0, v1, v2, v3, v4, v5, v6, v7] (.int (im a i.toNatClampNeg) :: st) (im) (rm) := ev_iald pm_m85 d85_8 hk hi rfl
theorem d85_9 : decode prog_1_method_46_code 9 = .ok (.invokestatic 342, 3) := by decide +kernel
theorem s85_9 {v0 v1 v2 v3 v4 v5 v6 v7 : Value} {p1 : Int32} {r2 : Int32} {im : IM} {rm : RM}  : ev 85 9 [v0, v1, v2, v3, v4, v5, v6, v7] [.int p1, .int r2] im rm = (ev 174 0 [.int p1] [] im rm).bind (fun r => ev 85 12 [v0, v1, v2, v3, v4, v5, v6, v7] (r.1.toList ++ [.int r2]) r.2.1 r.2.2) := ev_callS pm_m85 d85_9 (by decide) l7_342 rfl pm_m174 rfl ⟨rfl, rfl⟩ rfl rfl
theorem d85_12 : decode prog_1_method_46_code 12 = .ok (.isub, 1) := by decide +kernel
theorem s85_12 {v0 v1 v2 v3 v4 v5 v6 v7 : Value} {x : Int32} {y : Int32} {st : List Value} {im : IM} {rm : RM}  : ev 85 12 [v0, v1, v2, v3, v4, v5, v6, v7] (.int y :: .int x :: st) im rm = ev 85 13 [v0, v1, v2, v3, v4, v5, v6, v7] (.int (x - y) :: st) (im) (rm) := ev_isub pm_m85 d85_12 rfl
theorem d85_13 : decode prog_1_method_46_code 13 = .ok (.istore 6, 2) := by decide +kernel
theorem s85_13 {v0 v1 v2 v3 v4 v6 v7 : Value} {l1 : Int32} {x2 : Int32} {st : List Value} {im : IM} {rm : RM}  : ev 85 13 [v0, v1, v2, v3, v4, .int l1, v6, v7] (.int x2 :: st) im rm = ev 85 15 [v0, v1, v2, v3, v4, .int l1, .int x2, v7] st (im) (rm) := ev_istore pm_m85 d85_13 (Nat.le_of_ble_eq_true rfl) rfl rfl
theorem d85_15 : decode prog_1_method_46_code 15 = .ok (.iload 4, 2) := by decide +kernel
theorem s85_15 {v0 v1 v2 v3 v5 v6 v7 : Value} {l1 : Int32} {st : List Value} {im : IM} {rm : RM}  : ev 85 15 [v0, v1, v2, v3, .int l1, v5, v6, v7] st im rm = ev 85 17 [v0, v1, v2, v3, .int l1, v5, v6, v7] (.int l1 :: st) (im) (rm) := ev_iload pm_m85 d85_15 rfl rfl
theorem d85_17 : decode prog_1_method_46_code 17 = .ok (.istore 7, 2) := by decide +kernel
theorem s85_17 {v0 v1 v2 v3 v4 v5 v7 : Value} {l1 : Int32} {x2 : Int32} {st : List Value} {im : IM} {rm : RM}  : ev 85 17 [v0, v1, v2, v3, v4, v5, .int l1, v7] (.int x2 :: st) im rm = ev 85 19 [v0, v1, v2, v3, v4, v5, .int l1, .int x2] st (im) (rm) := ev_istore pm_m85 d85_17 (Nat.le_of_ble_eq_true rfl) rfl rfl
theorem d85_19 : decode prog_1_method_46_code 19 = .ok (.iload 7, 2) := by decide +kernel
theorem s85_19 {v0 v1 v2 v3 v4 v5 v6 : Value} {l1 : Int32} {st : List Value} {im : IM} {rm : RM}  : ev 85 19 [v0, v1, v2, v3, v4, v5, v6, .int l1] st im rm = ev 85 21 [v0, v1, v2, v3, v4, v5, v6, .int l1] (.int l1 :: st) (im) (rm) := ev_iload pm_m85 d85_19 rfl rfl
theorem d85_21 : decode prog_1_method_46_code 21 = .ok (.aload_n 2, 1) := by decide +kernel
theorem s85_21 {v0 v1 v3 v4 v5 v6 v7 : Value} {l1 : Nat} {st : List Value} {im : IM} {rm : RM}  : ev 85 21 [v0, v1, .ref l1, v3, v4, v5, v6, v7] st im rm = ev 85 22 [v0, v1, .ref l1, v3, v4, v5, v6, v7] (.ref l1 :: st) (im) (rm) := ev_aload_n pm_m85 d85_21 rfl rfl
theorem d85_22 : decode prog_1_method_46_code 22 = .ok (.getfield 120, 3) := by decide +kernel
theorem s85_22 {v0 v1 v2 v3 v4 v5 v6 v7 : Value} {a : Nat} {st : List Value} {im : IM} {rm : RM} (hk : kd a = 10) : ev 85 22 [v0, v1, v2, v3, v4, v5, v6, v7] (.ref a :: st) im rm = ev 85 25 [v0, v1, v2, v3, v4, v5, v6, v7] (.int (im a 2) :: st) (im) (rm) := ev_getI pm_m85 d85_22 f7_120 rfl hk rfl
theorem d85_25 : decode prog_1_method_46_code 25 = .ok (.if_icmp .ge 63, 3) := by decide +kernel
theorem s85_25 {v0 v1 v2 v3 v4 v5 v6 v7 : Value} {x : Int32} {y : Int32} {st : List Value} {im : IM} {rm : RM} : ev 85 25 [v0, v1, v2, v3, v4, v5, v6, v7] (.int y :: .int x :: st) im rm = if y ≤ x then ev 85 88 [pm_u, pm_u, pm_u, pm_u, pm_u, pm_u, pm_u, pm_u] st im rm else ev 85 28 [v0, v1, v2, v3, v4, v5, v6, v7] st im rm := ev_icmp_ge pm_m85 d85_25 rfl rfl rfl
theorem d85_28 : decode prog_1_method_46_code 28 = .ok (.aload_n 2, 1) := by decide +kernel
theorem s85_28 {v0 v1 v3 v4 v5 v6 v7 : Value} {l1 : Nat} {st : List Value} {im : IM} {rm : RM}  : ev 85 28 [v0, v1, .ref l1, v3, v4, v5, v6, v7] st im rm = ev 85 29 [v0, v1, .ref l1, v3, v4, v5, v6, v7] (.ref l1 :: st) (im) (rm) := ev_aload_n pm_m85 d85_28 rfl rfl
theorem d85_29 : decode prog_1_method_46_code 29 = .ok (.iload 7, 2) := by decide +kernel
theorem s85_29 {v0 v1 v2 v3 v4 v5 v6 : Value} {l1 : Int32} {st : List Value} {im : IM} {rm : RM}  : ev 85 29 [v0, v1, v2, v3, v4, v5, v6, .int l1] st im rm = ev 85 31 [v0, v1, v2, v3, v4, v5, v6, .int l1] (.int l1 :: st) (im) (rm) := ev_iload pm_m85 d85_29 rfl rfl
theorem d85_31 : decode prog_1_method_46_code 31 = .ok (.aload_n 0, 1) := by decide +kernel
theorem s85_31 {v1 v2 v3 v4 v5 v6 v7 : Value} {l1 : Nat} {st : List Value} {im : IM} {rm : RM}  : ev 85 31 [.ref l1, v1, v2, v3, v4, v5, v6, v7] st im rm = ev 85 32 [.ref l1, v1, v2, v3, v4, v5, v6, v7] (.ref l1 :: st) (im) (rm) := ev_aload_n pm_m85 d85_31 rfl rfl
theorem d85_32 : decode prog_1_method_46_code 32 = .ok (.getfield 87, 3) := by decide +kernel
theorem s85_32 {v0 v1 v2 v3 v4 v5 v6 v7 : Value} {a : Nat} {st : List Value} {im : IM} {rm : RM} (hk : kd a = 17) : ev 85 32 [v0, v1, v2, v3, v4, v5, v6, v7] (.ref a :: st) im rm = ev 85 35 [v0, v1, v2, v3, v4, v5, v6, v7] (pm_ro (rm a 14) :: st) (im) (rm) := ev_getR pm_m85 d85_32 f7_87 rfl hk rfl
theorem d85_35 : decode prog_1_method_46_code 35 = .ok (.invokevirtual 144, 3) := by decide +kernel
theorem s85_35 {v0 v1 v2 v3 v4 v5 v6 v7 : Value} {a : Nat} {p1 : Int32} {p2 : Nat} {im : IM} {rm : RM} (hk : kd a = 10) : ev 85 35 [v0, v1, v2, v3, v4, v5, v6, v7] [.ref p2, .int p1, .ref a] im rm = (ev 6 0 [.ref a, .int p1, .ref p2] [] im rm).bind (fun r => ev 85 38 [v0, v1, v2, v3, v4, v5, v6, v7] (r.1.toList ++ []) r.2.1 r.2.2) := ev_callV pm_m85 d85_35 l7_144 rfl pm_m6 (by decide) hk rfl ⟨rfl, rfl⟩ rfl rfl
theorem d85_38 : decode prog_1_method_46_code 38 = .ok (.aload_n 0, 1) := by decide +kernel
theorem s85_38 {v1 v2 v3 v4 v5 v6 v7 : Value} {l1 : Nat} {st : List Value} {im : IM} {rm : RM}  : ev 85 38 [.ref l1, v1, v2, v3, v4, v5, v6, v7] st im rm = ev 85 39 [.ref l1, v1, v2, v3, v4, v5, v6, v7] (.ref l1 :: st) (im) (rm) := ev_aload_n pm_m85 d85_38 rfl rfl
theorem d85_39 : decode prog_1_method_46_code 39 = .ok (.getfield 87, 3) := by decide +kernel
theorem s85_39 {v0 v1 v2 v3 v4 v5 v6 v7 : Value} {a : Nat} {st : List Value} {im : IM} {rm : RM} (hk : kd a = 17) : ev 85 39 [v0, v1, v2, v3, v4, v5, v6, v7] (.ref a :: st) im rm = ev 85 42 [v0, v1, v2, v3, v4, v5, v6, v7] (pm_ro (rm a 14) :: st) (im) (rm) := ev_getR pm_m85 d85_39 f7_87 rfl hk rfl
theorem d85_42 : decode prog_1_method_46_code 42 = .ok (.iconst 2, 1) := by decide +kernel
theorem s85_42 {v0 v1 v2 v3 v4 v5 v6 v7 : Value}  {st : List Value} {im : IM} {rm : RM}  : ev 85 42 [v0, v1, v2, v3, v4, v5, v6, v7] st im rm = ev 85 43 [v0, v1, v2, v3, v4, v5, v6, v7] (.int (nI 2) :: st) (im) (rm) := ev_iconst pm_m85 d85_42 rfl rfl
theorem d85_43 : decode prog_1_method_46_code 43 = .ok (.dup2, 1) := by decide +kernel
theorem s85_43 {v0 v1 v2 v3 v4 v5 v6 v7 : Value} {y : Int32} {x : Nat} {st : List Value} {im : IM} {rm : RM}  : ev 85 43 [v0, v1, v2, v3, v4, v5, v6, v7] (.int y :: .ref x :: st) im rm = ev 85 44 [v0, v1, v2, v3, v4, v5, v6, v7] (.int y :: .ref x :: .int y :: .ref x :: st) (im) (rm) := ev_dup2 pm_m85 d85_43 rfl
theorem d85_44 : decode prog_1_method_46_code 44 = .ok (.iaload, 1) := by decide +kernel
theorem s85_44 {v0 v1 v2 v3 v4 v5 v6 v7 : Value} {a : Nat} {i : Int32} {st : List Value} {im : IM} {rm : RM} (hk : kd a = 0) (hi : pm_in i (ln a) = true) : ev 85 44 [v0, v1, v2, v3, v4, v5, v6, v7] (.int i :: .ref a :: st) im rm = ev 85 45 [v0, v1, v2, v3, v4, v5, v6, v7] (.int (im a i.toNatClampNeg) :: st) (im) (rm) := ev_iald pm_m85 d85_44 hk hi rfl
theorem d85_45 : decode prog_1_method_46_code 45 = .ok (.iload 6, 2) := by decide +kernel
theorem s85_45 {v0 v1 v2 v3 v4 v5 v7 : Value} {l1 : Int32} {st : List Value} {im : IM} {rm : RM}  : ev 85 45 [v0, v1, v2, v3, v4, v5, .int l1, v7] st im rm = ev 85 47 [v0, v1, v2, v3, v4, v5, .int l1, v7] (.int l1 :: st) (im) (rm) := ev_iload pm_m85 d85_45 rfl rfl
theorem d85_47 : decode prog_1_method_46_code 47 = .ok (.iadd, 1) := by decide +kernel
theorem s85_47 {v0 v1 v2 v3 v4 v5 v6 v7 : Value} {x : Int32} {y : Int32} {st : List Value} {im : IM} {rm : RM}  : ev 85 47 [v0, v1, v2, v3, v4, v5, v6, v7] (.int y :: .int x :: st) im rm = ev 85 48 [v0, v1, v2, v3, v4, v5, v6, v7] (.int (x + y) :: st) (im) (rm) := ev_iadd pm_m85 d85_47 rfl
theorem d85_48 : decode prog_1_method_46_code 48 = .ok (.iastore, 1) := by decide +kernel
theorem s85_48 {v0 v1 v2 v3 v4 v5 v6 v7 : Value} {a : Nat} {i : Int32} {v : Int32} {st : List Value} {im : IM} {rm : RM} (hk : kd a = 0) (hi : pm_in i (ln a) = true) : ev 85 48 [v0, v1, v2, v3, v4, v5, v6, v7] (.int v :: .int i :: .ref a :: st) im rm = ev 85 49 [v0, v1, v2, v3, v4, v5, v6, v7] st (pm_w2 im a i.toNatClampNeg v) (rm) := ev_iast pm_m85 d85_48 hk hi rfl
theorem d85_49 : decode prog_1_method_46_code 49 = .ok (.iload 7, 2) := by decide +kernel
theorem s85_49 {v0 v1 v2 v3 v4 v5 v6 : Value} {l1 : Int32} {st : List Value} {im : IM} {rm : RM}  : ev 85 49 [v0, v1, v2, v3, v4, v5, v6, .int l1] st im rm = ev 85 51 [v0, v1, v2, v3, v4, v5, v6, .int l1] (.int l1 :: st) (im) (rm) := ev_iload pm_m85 d85_49 rfl rfl
theorem d85_51 : decode prog_1_method_46_code 51 = .ok (.iload 4, 2) := by decide +kernel
theorem s85_51 {v0 v1 v2 v3 v5 v6 v7 : Value} {l1 : Int32} {st : List Value} {im : IM} {rm : RM}  : ev 85 51 [v0, v1, v2, v3, .int l1, v5, v6, v7] st im rm = ev 85 53 [v0, v1, v2, v3, .int l1, v5, v6, v7] (.int l1 :: st) (im) (rm) := ev_iload pm_m85 d85_51 rfl rfl
theorem d85_53 : decode prog_1_method_46_code 53 = .ok (.if_icmp .ne 11, 3) := by decide +kernel
theorem s85_53 {v0 v1 v2 v3 v4 v5 v6 v7 : Value} {x : Int32} {y : Int32} {st : List Value} {im : IM} {rm : RM} : ev 85 53 [v0, v1, v2, v3, v4, v5, v6, v7] (.int y :: .int x :: st) im rm = if x = y then ev 85 56 [v0, v1, v2, v3, v4, v5, v6, v7] st im rm else ev 85 64 [v0, v1, v2, v3, v4, v5, v6, v7] st im rm := ev_icmp_ne pm_m85 d85_53 rfl rfl rfl
theorem d85_56 : decode prog_1_method_46_code 56 = .ok (.aload_n 0, 1) := by decide +kernel
theorem s85_56 {v1 v2 v3 v4 v5 v6 v7 : Value} {l1 : Nat} {st : List Value} {im : IM} {rm : RM}  : ev 85 56 [.ref l1, v1, v2, v3, v4, v5, v6, v7] st im rm = ev 85 57 [.ref l1, v1, v2, v3, v4, v5, v6, v7] (.ref l1 :: st) (im) (rm) := ev_aload_n pm_m85 d85_56 rfl rfl
theorem d85_57 : decode prog_1_method_46_code 57 = .ok (.getfield 87, 3) := by decide +kernel
theorem s85_57 {v0 v1 v2 v3 v4 v5 v6 v7 : Value} {a : Nat} {st : List Value} {im : IM} {rm : RM} (hk : kd a = 17) : ev 85 57 [v0, v1, v2, v3, v4, v5, v6, v7] (.ref a :: st) im rm = ev 85 60 [v0, v1, v2, v3, v4, v5, v6, v7] (pm_ro (rm a 14) :: st) (im) (rm) := ev_getR pm_m85 d85_57 f7_87 rfl hk rfl
theorem d85_60 : decode prog_1_method_46_code 60 = .ok (.iconst 1, 1) := by decide +kernel
theorem s85_60 {v0 v1 v2 v3 v4 v5 v6 v7 : Value}  {st : List Value} {im : IM} {rm : RM}  : ev 85 60 [v0, v1, v2, v3, v4, v5, v6, v7] st im rm = ev 85 61 [v0, v1, v2, v3, v4, v5, v6, v7] (.int (nI 1) :: st) (im) (rm) := ev_iconst pm_m85 d85_60 rfl rfl
theorem d85_61 : decode prog_1_method_46_code 61 = .ok (.iload 5, 2) := by decide +kernel
theorem s85_61 {v0 v1 v2 v3 v4 v6 v7 : Value} {l1 : Int32} {st : List Value} {im : IM} {rm : RM}  : ev 85 61 [v0, v1, v2, v3, v4, .int l1, v6, v7] st im rm = ev 85 63 [v0, v1, v2, v3, v4, .int l1, v6, v7] (.int l1 :: st) (im) (rm) := ev_iload pm_m85 d85_61 rfl rfl
theorem d85_63 : decode prog_1_method_46_code 63 = .ok (.iastore, 1) := by decide +kernel
theorem s85_63 {v0 v1 v2 v3 v4 v5 v6 v7 : Value} {a : Nat} {i : Int32} {v : Int32} {st : List Value} {im : IM} {rm : RM} (hk : kd a = 0) (hi : pm_in i (ln a) = true) : ev 85 63 [v0, v1, v2, v3, v4, v5, v6, v7] (.int v :: .int i :: .ref a :: st) im rm = ev 85 64 [v0, v1, v2, v3, v4, v5, v6, v7] st (pm_w2 im a i.toNatClampNeg v) (rm) := ev_iast pm_m85 d85_63 hk hi rfl
theorem d85_64 : decode prog_1_method_46_code 64 = .ok (.aload_n 1, 1) := by decide +kernel
theorem s85_64 {v0 v2 v3 v4 v5 v6 v7 : Value} {l1 : Nat} {st : List Value} {im : IM} {rm : RM}  : ev 85 64 [v0, .ref l1, v2, v3, v4, v5, v6, v7] st im rm = ev 85 65 [v0, .ref l1, v2, v3, v4, v5, v6, v7] (.ref l1 :: st) (im) (rm) := ev_aload_n pm_m85 d85_64 rfl rfl
theorem d85_65 : decode prog_1_method_46_code 65 = .ok (.aload_n 1, 1) := by decide +kernel
theorem s85_65 {v0 v2 v3 v4 v5 v6 v7 : Value} {l1 : Nat} {st : List Value} {im : IM} {rm : RM}  : ev 85 65 [v0, .ref l1, v2, v3, v4, v5, v6, v7] st im rm = ev 85 66 [v0, .ref l1, v2, v3, v4, v5, v6, v7] (.ref l1 :: st) (im) (rm) := ev_aload_n pm_m85 d85_65 rfl rfl
theorem d85_66 : decode prog_1_method_46_code 66 = .ok (.aload_n 0, 1) := by decide +kernel
theorem s85_66 {v1 v2 v3 v4 v5 v6 v7 : Value} {l1 : Nat} {st : List Value} {im : IM} {rm : RM}  : ev 85 66 [.ref l1, v1, v2, v3, v4, v5, v6, v7] st im rm = ev 85 67 [.ref l1, v1, v2, v3, v4, v5, v6, v7] (.ref l1 :: st) (im) (rm) := ev_aload_n pm_m85 d85_66 rfl rfl
theorem d85_67 : decode prog_1_method_46_code 67 = .ok (.getfield 87, 3) := by decide +kernel
theorem s85_67 {v0 v1 v2 v3 v4 v5 v6 v7 : Value} {a : Nat} {st : List Value} {im : IM} {rm : RM} (hk : kd a = 17) : ev 85 67 [v0, v1, v2, v3, v4, v5, v6, v7] (.ref a :: st) im rm = ev 85 70 [v0, v1, v2, v3, v4, v5, v6, v7] (pm_ro (rm a 14) :: st) (im) (rm) := ev_getR pm_m85 d85_67 f7_87 rfl hk rfl
theorem d85_70 : decode prog_1_method_46_code 70 = .ok (.invokevirtual 319, 3) := by decide +kernel
theorem s85_70 {v0 v1 v2 v3 v4 v5 v6 v7 : Value} {a : Nat} {p1 : Nat} {r2 : Nat} {im : IM} {rm : RM} (hk : kd a = 14) : ev 85 70 [v0, v1, v2, v3, v4, v5, v6, v7] [.ref p1, .ref a, .ref r2] im rm = (ev 16 0 [.ref a, .ref p1, pm_u] [] im rm).bind (fun r => ev 85 73 [v0, v1, v2, v3, v4, v5, v6, v7] (r.1.toList ++ [.ref r2]) r.2.1 r.2.2) := ev_callV pm_m85 d85_70 l7_319 rfl pm_m16 (by decide) hk rfl ⟨rfl, rfl⟩ rfl rfl
theorem d85_73 : decode prog_1_method_46_code 73 = .ok (.invokevirtual 323, 3) := by decide +kernel
theorem s85_73 {v0 v1 v2 v3 v4 v5 v6 v7 : Value} {a : Nat} {p1 : Int32} {im : IM} {rm : RM} (hk : kd a = 14) : ev 85 73 [v0, v1, v2, v3, v4, v5, v6, v7] [.int p1, .ref a] im rm = (ev 18 0 [.ref a, .int p1] [] im rm).bind (fun r => ev 85 76 [v0, v1, v2, v3, v4, v5, v6, v7] (r.1.toList ++ []) r.2.1 r.2.2) := ev_callV pm_m85 d85_73 l7_323 rfl pm_m18 (by decide) hk rfl ⟨rfl, rfl⟩ rfl rfl
theorem d85_76 : decode prog_1_method_46_code 76 = .ok (.iload_n 3, 1) := by decide +kernel
theorem s85_76 {v0 v1 v2 v4 v5 v6 v7 : Value} {l1 : Int32} {st : List Value} {im : IM} {rm : RM}  : ev 85 76 [v0, v1, v2, .int l1, v4, v5, v6, v7] st im rm = ev 85 77 [v0, v1, v2, .int l1, v4, v5, v6, v7] (.int l1 :: st) (im) (rm) := ev_iload_n pm_m85 d85_76 rfl rfl
theorem d85_77 : decode prog_1_method_46_code 77 = .ok (.if_icmp .ne 5, 3) := by decide +kernel
theorem s85_77 {v0 v1 v2 v3 v4 v5 v6 v7 : Value} {x : Int32} {y : Int32} {st : List Value} {im : IM} {rm : RM} : ev 85 77 [v0, v1, v2, v3, v4, v5, v6, v7] (.int y :: .int x :: st) im rm = if x = y then ev 85 80 [v0, v1, v2, v3, v4, v5, v6, v7] st im rm else ev 85 82 [v0, v1, v2, v3, v4, v5, v6, v7] st im rm := ev_icmp_ne pm_m85 d85_77 rfl rfl rfl
theorem d85_80 : decode prog_1_method_46_code 80 = .ok (.iconst 0, 1) := by decide +kernel
theorem s85_80 {v0 v1 v2 v3 v4 v5 v6 v7 : Value}  {st : List Value} {im : IM} {rm : RM}  : ev 85 80 [v0, v1, v2, v3, v4, v5, v6, v7] st im rm = ev 85 81 [v0, v1, v2, v3, v4, v5, v6, v7] (.int (nI 0) :: st) (im) (rm) := ev_iconst pm_m85 d85_80 rfl rfl
theorem d85_81 : decode prog_1_method_46_code 81 = .ok (.ireturn, 1) := by decide +kernel
theorem s85_81 {v0 v1 v2 v3 v4 v5 v6 v7 : Value} {x : Int32} {im : IM} {rm : RM} (hx : x = 0 ∨ x = 1) : ev 85 81 [v0, v1, v2, v3, v4, v5, v6, v7] [.int x] im rm = some (some (.int x), im, rm) := ev_zreturn pm_m85 d85_81 rfl hx
theorem d85_82 : decode prog_1_method_46_code 82 = .ok (.iinc 7 1, 3) := by decide +kernel
theorem s85_82 {v0 v1 v2 v3 v4 v5 : Value} {l1 : Int32} {l2 : Int32} {st : List Value} {im : IM} {rm : RM}  : ev 85 82 [v0, v1, v2, v3, v4, v5, .int l1, .int l2] st im rm = ev 85 85 [v0, v1, v2, v3, v4, v5, .int l1, .int (l2 + nI 1)] st (im) (rm) := ev_iinc pm_m85 d85_82 rfl rfl rfl rfl
theorem d85_85 : decode prog_1_method_46_code 85 = .ok (.goto (-66), 3) := by decide +kernel
theorem s85_85 {v0 v1 v2 v3 v4 v5 v6 v7 : Value}  {st : List Value} {im : IM} {rm : RM}  : ev 85 85 [v0, v1, v2, v3, v4, v5, v6, v7] st im rm = ev 85 19 [v0, v1, v2, v3, v4, v5, v6, v7] st (im) (rm) := ev_goto pm_m85 d85_85 rfl rfl
theorem d85_88 : decode prog_1_method_46_code 88 = .ok (.iconst 1, 1) := by decide +kernel
theorem s85_88 {v0 v1 v2 v3 v4 v5 v6 v7 : Value}  {st : List Value} {im : IM} {rm : RM}  : ev 85 88 [v0, v1, v2, v3, v4, v5, v6, v7] st im rm = ev 85 89 [v0, v1, v2, v3, v4, v5, v6, v7] (.int (nI 1) :: st) (im) (rm) := ev_iconst pm_m85 d85_88 rfl rfl
theorem d85_89 : decode prog_1_method_46_code 89 = .ok (.ireturn, 1) := by decide +kernel
theorem s85_89 {v0 v1 v2 v3 v4 v5 v6 v7 : Value} {x : Int32} {im : IM} {rm : RM} (hx : x = 0 ∨ x = 1) : ev 85 89 [v0, v1, v2, v3, v4, v5, v6, v7] [.int x] im rm = some (some (.int x), im, rm) := ev_zreturn pm_m85 d85_89 rfl hx
theorem d86_0 : decode prog_1_method_47_code 0 = .ok (.iload_n 0, 1) := by decide +kernel
theorem s86_0 {l1 : Int32} {st : List Value} {im : IM} {rm : RM}  : ev 86 0 [.int l1] st im rm = ev 86 1 [.int l1] (.int l1 :: st) (im) (rm) := ev_iload_n pm_m86 d86_0 rfl rfl
theorem d86_1 : decode prog_1_method_47_code 1 = .ok (.iconst 2, 1) := by decide +kernel
theorem s86_1 {v0 : Value}  {st : List Value} {im : IM} {rm : RM}  : ev 86 1 [v0] st im rm = ev 86 2 [v0] (.int (nI 2) :: st) (im) (rm) := ev_iconst pm_m86 d86_1 rfl rfl
theorem d86_2 : decode prog_1_method_47_code 2 = .ok (.irem, 1) := by decide +kernel
theorem s86_2 {v0 : Value} {x : Int32} {y : Int32} {st : List Value} {im : IM} {rm : RM} (h0 : ¬ y = 0) : ev 86 2 [v0] (.int y :: .int x :: st) im rm = ev 86 3 [v0] (.int (x - x / y * y) :: st) (im) (rm) := ev_irem pm_m86 d86_2 h0 rfl
theorem d86_3 : decode prog_1_method_47_code 3 = .ok (.iconst 1, 1) := by decide +kernel
theorem s86_3 {v0 : Value}  {st : List Value} {im : IM} {rm : RM}  : ev 86 3 [v0] st im rm = ev 86 4 [v0] (.int (nI 1) :: st) (im) (rm) := ev_iconst pm_m86 d86_3 rfl rfl
theorem d86_4 : decode prog_1_method_47_code 4 = .ok (.if_icmp .ne 7, 3) := by decide +kernel
theorem s86_4 {v0 : Value} {x : Int32} {y : Int32} {st : List Value} {im : IM} {rm : RM} : ev 86 4 [v0] (.int y :: .int x :: st) im rm = if x = y then ev 86 7 [v0] st im rm else ev 86 11 [pm_u] st im rm := ev_icmp_ne pm_m86 d86_4 rfl rfl rfl
theorem d86_7 : decode prog_1_method_47_code 7 = .ok (.iconst 1, 1) := by decide +kernel
theorem s86_7 {v0 : Value}  {st : List Value} {im : IM} {rm : RM}  : ev 86 7 [v0] st im rm = ev 86 8 [v0] (.int (nI 1) :: st) (im) (rm) := ev_iconst pm_m86 d86_7 rfl rfl
theorem d86_8 : decode prog_1_method_47_code 8 = .ok (.goto 4, 3) := by decide +kernel
theorem s86_8 {v0 : Value}  {st : List Value} {im : IM} {rm : RM}  : ev 86 8 [v0] st im rm = ev 86 12 [pm_u] st (im) (rm) := ev_goto pm_m86 d86_8 rfl rfl
theorem d86_11 : decode prog_1_method_47_code 11 = .ok (.iconst 0, 1) := by decide +kernel
theorem s86_11 {v0 : Value}  {st : List Value} {im : IM} {rm : RM}  : ev 86 11 [v0] st im rm = ev 86 12 [pm_u] (.int (nI 0) :: st) (im) (rm) := ev_iconst pm_m86 d86_11 rfl rfl
theorem d86_12 : decode prog_1_method_47_code 12 = .ok (.ireturn, 1) := by decide +kernel
theorem s86_12 {v0 : Value} {x : Int32} {im : IM} {rm : RM} (hx : x = 0 ∨ x = 1) : ev 86 12 [v0] [.int x] im rm = some (some (.int x), im, rm) := ev_zreturn pm_m86 d86_12 rfl hx
theorem d87_0 : decode prog_1_method_48_code 0 = .ok (.iload_n 1, 1) := by decide +kernel
theorem s87_0 {v0 v2 v3 v4 v5 v6 v7 : Value} {l1 : Int32} {st : List Value} {im : IM} {rm : RM}  : ev 87 0 [v0, .int l1, v2, v3, v4, v5, v6, v7] st im rm = ev 87 1 [v0, .int l1, v2, v3, v4, v5, v6, v7] (.int l1 :: st) (im) (rm) := ev_iload_n pm_m87 d87_0 rfl rfl
theorem d87_1 : decode prog_1_method_48_code 1 = .ok (.invokestatic 345, 3) := by decide +kernel
theorem s87_1 {v0 v1 v2 v3 v4 v5 v6 v7 : Value} {p1 : Int32} {im : IM} {rm : RM}  : ev 87 1 [v0, v1, v2, v3, v4, v5, v6, v7] [.int p1] im rm = (ev 86 0 [.int p1] [] im rm).bind (fun r => ev 87 4 [v0, v1, v2, v3, v4, v5, v6, v7] (r.1.toList ++ []) r.2.1 r.2.2) := ev_callS pm_m87 d87_1 (by decide) l7_345 rfl pm_m86 rfl ⟨rfl, rfl⟩ rfl rfl
theorem d87_4 : decode prog_1_method_48_code 4 = .ok (.istore_n 2, 1) := by decide +kernel
theorem s87_4 {v0 v2 v3 v4 v5 v6 v7 : Value} {l1 : Int32} {x2 : Int32} {st : List Value} {im : IM} {rm : RM}  : ev 87 4 [v0, .int l1, v2, v3, v4, v5, v6, v7] (.int x2 :: st) im rm = ev 87 5 [v0, .int l1, .int x2, v3, v4, v5, v6, v7] st (im) (rm) := ev_istore_n pm_m87 d87_4 (Nat.le_of_ble_eq_true rfl) rfl rfl
theorem d87_5 : decode prog_1_method_48_code 5 = .ok (.iconst (-1), 1) := by decide +kernel
theorem s87_5 {v0 v1 v2 v3 v4 v5 v6 v7 : Value}  {st : List Value} {im : IM} {rm : RM}  : ev 87 5 [v0, v1, v2, v3, v4, v5, v6, v7] st im rm = ev 87 6 [v0, v1, v2, v3, v4, v5, v6, v7] (.int ((-1 : Int32)) :: st) (im) (rm) := ev_iconst pm_m87 d87_5 rfl rfl
theorem d87_6 : decode prog_1_method_48_code 6 = .ok (.istore_n 3, 1) := by decide +kernel
theorem s87_6 {v0 v1 v3 v4 v5 v6 v7 : Value} {l1 : Int32} {x2 : Int32} {st : List Value} {im : IM} {rm : RM}  : ev 87 6 [v0, v1, .int l1, v3, v4, v5, v6, v7] (.int x2 :: st) im rm = ev 87 7 [v0, v1, .int l1, .int x2, v4, v5, v6, v7] st (im) (rm) := ev_istore_n pm_m87 d87_6 (Nat.le_of_ble_eq_true rfl) rfl rfl
theorem d87_7 : decode prog_1_method_48_code 7 = .ok (.iconst 0, 1) := by decide +kernel
theorem s87_7 {v0 v1 v2 v3 v4 v5 v6 v7 : Value}  {st : List Value} {im : IM} {rm : RM}  : ev 87 7 [v0, v1, v2, v3, v4, v5, v6, v7] st im rm = ev 87 8 [v0, v1, v2, v3, v4, v5, v6, v7] (.int (nI 0) :: st) (im) (rm) := ev_iconst pm_m87 d87_7 rfl rfl
theorem d87_8 : decode prog_1_method_48_code 8 = .ok (.istore 4, 2) := by decide +kernel
theorem s87_8 {v0 v1 v2 v4 v5 v6 v7 : Value} {l1 : Int32} {x2 : Int32} {st : List Value} {im : IM} {rm : RM}  : ev 87 8 [v0, v1, v2, .int l1, v4, v5, v6, v7] (.int x2 :: st) im rm = ev 87 10 [v0, v1, v2, .int l1, .int x2, pm_u, pm_u, pm_u] st (im) (rm) := ev_istore pm_m87 d87_8 (Nat.le_of_ble_eq_true rfl) rfl rfl
theorem d87_10 : decode prog_1_method_48_code 10 = .ok (.iload 4, 2) := by decide +kernel
theorem s87_10 {v0 v1 v2 v3 v5 v6 v7 : Value} {l1 : Int32} {st : List Value} {im : IM} {rm : RM}  : ev 87 10 [v0, v1, v2, v3, .int l1, v5, v6, v7] st im rm = ev 87 12 [v0, v1, v2, v3, .int l1, v5, v6, v7] (.int l1 :: st) (im) (rm) := ev_iload pm_m87 d87_10 rfl rfl
theorem d87_12 : decode prog_1_method_48_code 12 = .ok (.bipush 6, 2) := by decide +kernel
theorem s87_12 {v0 v1 v2 v3 v4 v5 v6 v7 : Value}  {st : List Value} {im : IM} {rm : RM}  : ev 87 12 [v0, v1, v2, v3, v4, v5, v6, v7] st im rm = ev 87 14 [v0, v1, v2, v3, v4, v5, v6, v7] (.int (nI 6) :: st) (im) (rm) := ev_bipush pm_m87 d87_12 rfl rfl
theorem d87_14 : decode prog_1_method_48_code 14 = .ok (.if_icmp .ge 93, 3) := by decide +kernel
theorem s87_14 {v0 v1 v2 v3 v4 v5 v6 v7 : Value} {x : Int32} {y : Int32} {st : List Value} {im : IM} {rm : RM} : ev 87 14 [v0, v1, v2, v3, v4, v5, v6, v7] (.int y :: .int x :: st) im rm = if y ≤ x then ev 87 107 [pm_u, pm_u, v2, v3, pm_u, pm_u, pm_u, pm_u] st im rm else ev 87 17 [v0, v1, v2, v3, v4, v5, v6, v7] st im rm := ev_icmp_ge pm_m87 d87_14 rfl rfl rfl
theorem d87_17 : decode prog_1_method_48_code 17 = .ok (.aload_n 0, 1) := by decide +kernel
theorem s87_17 {v1 v2 v3 v4 v5 v6 v7 : Value} {l1 : Nat} {st : List Value} {im : IM} {rm : RM}  : ev 87 17 [.ref l1, v1, v2, v3, v4, v5, v6, v7] st im rm = ev 87 18 [.ref l1, v1, v2, v3, v4, v5, v6, v7] (.ref l1 :: st) (im) (rm) := ev_aload_n pm_m87 d87_17 rfl rfl
theorem d87_18 : decode prog_1_method_48_code 18 = .ok (.getfield 11, 3) := by decide +kernel
theorem s87_18 {v0 v1 v2 v3 v4 v5 v6 v7 : Value} {a : Nat} {st : List Value} {im : IM} {rm : RM} (hk : kd a = 17) : ev 87 18 [v0, v1, v2, v3, v4, v5, v6, v7] (.ref a :: st) im rm = ev 87 21 [v0, v1, v2, v3, v4, v5, v6, v7] (pm_ro (rm a 0) :: st) (im) (rm) := ev_getR pm_m87 d87_18 f7_11 rfl hk rfl
theorem d87_21 : decode prog_1_method_48_code 21 = .ok (.iload 4, 2) := by decide +kernel
theorem s87_21 {v0 v1 v2 v3 v5 v6 v7 : Value} {l1 : Int32} {st : List Value} {im : IM} {rm : RM}  : ev 87 21 [v0, v1, v2, v3, .int l1, v5, v6, v7] st im rm = ev 87 23 [v0, v1, v2, v3, .int l1, v5, v6, v7] (.int l1 :: st) (im) (rm) := ev_iload pm_m87 d87_21 rfl rfl
theorem d87_23 : decode prog_1_method_48_code 23 = .ok (.aaload, 1) := by decide +kernel
theorem s87_23 {v0 v1 v2 v3 v4 v5 v6 v7 : Value} {a : Nat} {i : Int32} {st : List Value} {im : IM} {rm : RM} (hk : 2 ≤ kd a ∧ kd a ≤ 5) (hi : pm_in i (ln a) = true) : ev 87 23 [v0, v1, v2, v3, v4, v5, v6, v7] (.int i :: .ref a :: st) im rm = ev 87 24 [v0, v1, v2, v3, v4, v5, v6, v7] (pm_ro (rm a i.toNatClampNeg) :: st) (im) (rm) := ev_aald pm_m87 d87_23 hk hi rfl
theorem d87_24 : decode prog_1_method_48_code 24 = .ok (.astore 5, 2) := by decide +kernel
theorem s87_24 {v0 v1 v2 v3 v5 v6 v7 : Value} {l1 : Int32} {x2 : Nat} {st : List Value} {im : IM} {rm : RM}  : ev 87 24 [v0, v1, v2, v3, .int l1, v5, v6, v7] (.ref x2 :: st) im rm = ev 87 26 [v0, v1, v2, v3, .int l1, .ref x2, v6, v7] st (im) (rm) := ev_astore pm_m87 d87_24 (Nat.le_of_ble_eq_true rfl) rfl rfl
theorem d87_26 : decode prog_1_method_48_code 26 = .ok (.iconst 0, 1) := by decide +kernel
theorem s87_26 {v0 v1 v2 v3 v4 v5 v6 v7 : Value}  {st : List Value} {im : IM} {rm : RM}  : ev 87 26 [v0, v1, v2, v3, v4, v5, v6, v7] st im rm = ev 87 27 [v0, v1, v2, v3, v4, v5, v6, v7] (.int (nI 0) :: st) (im) (rm) := ev_iconst pm_m87 d87_26 rfl rfl
theorem d87_27 : decode prog_1_method_48_code 27 = .ok (.istore 6, 2) := by decide +kernel
theorem s87_27 {v0 v1 v2 v3 v4 v6 v7 : Value} {l1 : Nat} {x2 : Int32} {st : List Value} {im : IM} {rm : RM}  : ev 87 27 [v0, v1, v2, v3, v4, .ref l1, v6, v7] (.int x2 :: st) im rm = ev 87 29 [v0, v1, v2, v3, v4, .ref l1, .int x2, pm_u] st (im) (rm) := ev_istore pm_m87 d87_27 (Nat.le_of_ble_eq_true rfl) rfl rfl
theorem d87_29 : decode prog_1_method_48_code 29 = .ok (.aload 5, 2) := by decide +kernel
theorem s87_29 {v0 v1 v2 v3 v4 v6 v7 : Value} {l1 : Nat} {st : List Value} {im : IM} {rm : RM}  : ev 87 29 [v0, v1, v2, v3, v4, .ref l1, v6, v7] st im rm = ev 87 31 [v0, v1, v2, v3, v4, .ref l1, v6, v7] (.ref l1 :: st) (im) (rm) := ev_aload pm_m87 d87_29 rfl rfl
theorem d87_31 : decode prog_1_method_48_code 31 = .ok (.getfield 246, 3) := by decide +kernel
theorem s87_31 {v0 v1 v2 v3 v4 v5 v6 v7 : Value} {a : Nat} {st : List Value} {im : IM} {rm : RM} (hk : kd a = 10) : ev 87 31 [v0, v1, v2, v3, v4, v5, v6, v7] (.ref a :: st) im rm = ev 87 34 [v0, v1, v2, v3, v4, v5, v6, v7] (.int (im a 0) :: st) (im) (rm) := ev_getI pm_m87 d87_31 f7_246 rfl hk rfl
theorem d87_34 : decode prog_1_method_48_code 34 = .ok (.ifCond .ne 67, 3) := by decide +kernel
theorem s87_34 {v0 v1 v2 v3 v4 v5 v6 v7 : Value} {x : Int32} {st : List Value} {im : IM} {rm : RM} : ev 87 34 [v0, v1, v2, v3, v4, v5, v6, v7] (.int x :: st) im rm = if x = nI 0 then ev 87 37 [v0, v1, v2, v3, v4, v5, v6, v7] st im rm else ev 87 101 [v0, v1, v2, v3, v4, pm_u, pm_u, pm_u] st im rm := ev_if_ne (y := 0) pm_m87 d87_34 rfl rfl rfl
theorem d87_37 : decode prog_1_method_48_code 37 = .ok (.iload 6, 2) := by decide +kernel
theorem s87_37 {v0 v1 v2 v3 v4 v5 v7 : Value} {l1 : Int32} {st : List Value} {im : IM} {rm : RM}  : ev 87 37 [v0, v1, v2, v3, v4, v5, .int l1, v7] st im rm = ev 87 39 [v0, v1, v2, v3, v4, v5, .int l1, v7] (.int l1 :: st) (im) (rm) := ev_iload pm_m87 d87_37 rfl rfl
theorem d87_39 : decode prog_1_method_48_code 39 = .ok (.aload 5, 2) := by decide +kernel
theorem s87_39 {v0 v1 v2 v3 v4 v6 v7 : Value} {l1 : Nat} {st : List Value} {im : IM} {rm : RM}  : ev 87 39 [v0, v1, v2, v3, v4, .ref l1, v6, v7] st im rm = ev 87 41 [v0, v1, v2, v3, v4, .ref l1, v6, v7] (.ref l1 :: st) (im) (rm) := ev_aload pm_m87 d87_39 rfl rfl
theorem d87_41 : decode prog_1_method_48_code 41 = .ok (.getfield 120, 3) := by decide +kernel
theorem s87_41 {v0 v1 v2 v3 v4 v5 v6 v7 : Value} {a : Nat} {st : List Value} {im : IM} {rm : RM} (hk : kd a = 10) : ev 87 41 [v0, v1, v2, v3, v4, v5, v6, v7] (.ref a :: st) im rm = ev 87 44 [v0, v1, v2, v3, v4, v5, v6, v7] (.int (im a 2) :: st) (im) (rm) := ev_getI pm_m87 d87_41 f7_120 rfl hk rfl
theorem d87_44 : decode prog_1_method_48_code 44 = .ok (.if_icmp .ge 57, 3) := by decide +kernel
theorem s87_44 {v0 v1 v2 v3 v4 v5 v6 v7 : Value} {x : Int32} {y : Int32} {st : List Value} {im : IM} {rm : RM} : ev 87 44 [v0, v1, v2, v3, v4, v5, v6, v7] (.int y :: .int x :: st) im rm = if y ≤ x then ev 87 101 [v0, v1, v2, v3, v4, pm_u, pm_u, pm_u] st im rm else ev 87 47 [v0, v1, v2, v3, v4, v5, v6, v7] st im rm := ev_icmp_ge pm_m87 d87_44 rfl rfl rfl
theorem d87_47 : decode prog_1_method_48_code 47 = .ok (.aload 5, 2) := by decide +kernel
theorem s87_47 {v0 v1 v2 v3 v4 v6 v7 : Value} {l1 : Nat} {st : List Value} {im : IM} {rm : RM}  : ev 87 47 [v0, v1, v2, v3, v4, .ref l1, v6, v7] st im rm = ev 87 49 [v0, v1, v2, v3, v4, .ref l1, v6, v7] (.ref l1 :: st) (im) (rm) := ev_aload pm_m87 d87_47 rfl rfl
theorem d87_49 : decode prog_1_method_48_code 49 = .ok (.iload 6, 2) := by decide +kernel
theorem s87_49 {v0 v1 v2 v3 v4 v5 v7 : Value} {l1 : Int32} {st : List Value} {im : IM} {rm : RM}  : ev 87 49 [v0, v1, v2, v3, v4, v5, .int l1, v7] st im rm = ev 87 51 [v0, v1, v2, v3, v4, v5, .int l1, v7] (.int l1 :: st) (im) (rm) := ev_iload pm_m87 d87_49 rfl rfl
theorem d87_51 : decode prog_1_method_48_code 51 = .ok (.aload_n 0, 1) := by decide +kernel
theorem s87_51 {v1 v2 v3 v4 v5 v6 v7 : Value} {l1 : Nat} {st : List Value} {im : IM} {rm : RM}  : ev 87 51 [.ref l1, v1, v2, v3, v4, v5, v6, v7] st im rm = ev 87 52 [.ref l1, v1, v2, v3, v4, v5, v6, v7] (.ref l1 :: st) (im) (rm) := ev_aload_n pm_m87 d87_51 rfl rfl
theorem d87_52 : decode prog_1_method_48_code 52 = .ok (.getfield 87, 3) := by decide +kernel
theorem s87_52 {v0 v1 v2 v3 v4 v5 v6 v7 : Value} {a : Nat} {st : List Value} {im : IM} {rm : RM} (hk : kd a = 17) : ev 87 52 [v0, v1, v2, v3, v4, v5, v6, v7] (.ref a :: st) im rm = ev 87 55 [v0, v1, v2, v3, v4, v5, v6, v7] (pm_ro (rm a 14) :: st) (im) (rm) := ev_getR pm_m87 d87_52 f7_87 rfl hk rfl
theorem d87_55 : decode prog_1_method_48_code 55 = .ok (.invokevirtual 144, 3) := by decide +kernel
theorem s87_55 {v0 v1 v2 v3 v4 v5 v6 v7 : Value} {a : Nat} {p1 : Int32} {p2 : Nat} {im : IM} {rm : RM} (hk : kd a = 10) : ev 87 55 [v0, v1, v2, v3, v4, v5, v6, v7] [.ref p2, .int p1, .ref a] im rm = (ev 6 0 [.ref a, .int p1, .ref p2] [] im rm).bind (fun r => ev 87 58 [v0, v1, v2, v3, v4, v5, v6, v7] (r.1.toList ++ []) r.2.1 r.2.2) := ev_callV pm_m87 d87_55 l7_144 rfl pm_m6 (by decide) hk rfl ⟨rfl, rfl⟩ rfl rfl
theorem d87_58 : decode prog_1_method_48_code 58 = .ok (.aload_n 0, 1) := by decide +kernel
theorem s87_58 {v1 v2 v3 v4 v5 v6 v7 : Value} {l1 : Nat} {st : List Value} {im : IM} {rm : RM}  : ev 87 58 [.ref l1, v1, v2, v3, v4, v5, v6, v7] st im rm = ev 87 59 [.ref l1, v1, v2, v3, v4, v5, v6, v7] (.ref l1 :: st) (im) (rm) := ev_aload_n pm_m87 d87_58 rfl rfl
theorem d87_59 : decode prog_1_method_48_code 59 = .ok (.getfield 87, 3) := by decide +kernel
theorem s87_59 {v0 v1 v2 v3 v4 v5 v6 v7 : Value} {a : Nat} {st : List Value} {im : IM} {rm : RM} (hk : kd a = 17) : ev 87 59 [v0, v1, v2, v3, v4, v5, v6, v7] (.ref a :: st) im rm = ev 87 62 [v0, v1, v2, v3, v4, v5, v6, v7] (pm_ro (rm a 14) :: st) (im) (rm) := ev_getR pm_m87 d87_59 f7_87 rfl hk rfl
theorem d87_62 : decode prog_1_method_48_code 62 = .ok (.iload_n 1, 1) := by decide +kernel
theorem s87_62 {v0 v2 v3 v4 v5 v6 v7 : Value} {l1 : Int32} {st : List Value} {im : IM} {rm : RM}  : ev 87 62 [v0, .int l1, v2, v3, v4, v5, v6, v7] st im rm = ev 87 63 [v0, .int l1, v2, v3, v4, v5, v6, v7] (.int l1 :: st) (im) (rm) := ev_iload_n pm_m87 d87_62 rfl rfl
theorem d87_63 : decode prog_1_method_48_code 63 = .ok (.iconst 2, 1) := by decide +kernel
theorem s87_63 {v0 v1 v2 v3 v4 v5 v6 v7 : Value}  {st : List Value} {im : IM} {rm : RM}  : ev 87 63 [v0, v1, v2, v3, v4, v5, v6, v7] st im rm = ev 87 64 [v0, v1, v2, v3, v4, v5, v6, v7] (.int (nI 2) :: st) (im) (rm) := ev_iconst pm_m87 d87_63 rfl rfl
theorem d87_64 : decode prog_1_method_48_code 64 = .ok (.idiv, 1) := by decide +kernel
theorem s87_64 {v0 v1 v2 v3 v4 v5 v6 v7 : Value} {x : Int32} {y : Int32} {st : List Value} {im : IM} {rm : RM} (h0 : ¬ y = 0) : ev 87 64 [v0, v1, v2, v3, v4, v5, v6, v7] (.int y :: .int x :: st) im rm = ev 87 65 [v0, v1, v2, v3, v4, v5, v6, v7] (.int (x / y) :: st) (im) (rm) := ev_idiv pm_m87 d87_64 h0 rfl
theorem d87_65 : decode prog_1_method_48_code 65 = .ok (.iaload, 1) := by decide +kernel
theorem s87_65 {v0 v1 v2 v3 v4 v5 v6 v7 : Value} {a : Nat} {i : Int32} {st : List Value} {im : IM} {rm : RM} (hk : kd a = 0) (hi : pm_in i (ln a) = true) : ev 87 65 [v0, v1, v2, v3, v4, v5, v6, v7] (.int i :: .ref a :: st) im rm = ev 87 66 [v0, v1, v2, v3, v4, v5, v6, v7] (.int (im a i.toNatClampNeg) :: st) (im) (rm) := ev_iald pm_m87 d87_65 hk hi rfl
theorem d87_66 : decode prog_1_method_48_code 66 = .ok (.istore 7, 2) := by decide +kernel
theorem s87_66 {v0 v1 v2 v3 v4 v5 v7 : Value} {l1 : Int32} {x2 : Int32} {st : List Value} {im : IM} {rm : RM}  : ev 87 66 [v0, v1, v2, v3, v4, v5, .int l1, v7] (.int x2 :: st) im rm = ev 87 68 [v0, v1, v2, v3, v4, v5, .int l1, .int x2] st (im) (rm) := ev_istore pm_m87 d87_66 (Nat.le_of_ble_eq_true rfl) rfl rfl
theorem d87_68 : decode prog_1_method_48_code 68 = .ok (.iload_n 3, 1) := by decide +kernel
theorem s87_68 {v0 v1 v2 v4 v5 v6 v7 : Value} {l1 : Int32} {st : List Value} {im : IM} {rm : RM}  : ev 87 68 [v0, v1, v2, .int l1, v4, v5, v6, v7] st im rm = ev 87 69 [v0, v1, v2, .int l1, v4, v5, v6, v7] (.int l1 :: st) (im) (rm) := ev_iload_n pm_m87 d87_68 rfl rfl
theorem d87_69 : decode prog_1_method_48_code 69 = .ok (.iconst (-1), 1) := by decide +kernel
theorem s87_69 {v0 v1 v2 v3 v4 v5 v6 v7 : Value}  {st : List Value} {im : IM} {rm : RM}  : ev 87 69 [v0, v1, v2, v3, v4, v5, v6, v7] st im rm = ev 87 70 [v0, v1, v2, v3, v4, v5, v6, v7] (.int ((-1 : Int32)) :: st) (im) (rm) := ev_iconst pm_m87 d87_69 rfl rfl
theorem d87_70 : decode prog_1_method_48_code 70 = .ok (.if_icmp .eq 22, 3) := by decide +kernel
theorem s87_70 {v0 v1 v2 v3 v4 v5 v6 v7 : Value} {x : Int32} {y : Int32} {st : List Value} {im : IM} {rm : RM} : ev 87 70 [v0, v1, v2, v3, v4, v5, v6, v7] (.int y :: .int x :: st) im rm = if x = y then ev 87 92 [v0, v1, v2, pm_u, v4, v5, v6, v7] st im rm else ev 87 73 [v0, v1, v2, v3, v4, v5, v6, v7] st im rm := ev_icmp_eq pm_m87 d87_70 rfl rfl rfl
theorem d87_73 : decode prog_1_method_48_code 73 = .ok (.iload_n 2, 1) := by decide +kernel
theorem s87_73 {v0 v1 v3 v4 v5 v6 v7 : Value} {l1 : Int32} {st : List Value} {im : IM} {rm : RM}  : ev 87 73 [v0, v1, .int l1, v3, v4, v5, v6, v7] st im rm = ev 87 74 [v0, v1, .int l1, v3, v4, v5, v6, v7] (.int l1 :: st) (im) (rm) := ev_iload_n pm_m87 d87_73 rfl rfl
theorem d87_74 : decode prog_1_method_48_code 74 = .ok (.ifCond .eq 12, 3) := by decide +kernel
theorem s87_74 {v0 v1 v2 v3 v4 v5 v6 v7 : Value} {x : Int32} {st : List Value} {im : IM} {rm : RM} : ev 87 74 [v0, v1, v2, v3, v4, v5, v6, v7] (.int x :: st) im rm = if x = nI 0 then ev 87 86 [v0, v1, v2, v3, v4, v5, v6, v7] st im rm else ev 87 77 [v0, v1, v2, v3, v4, v5, v6, v7] st im rm := ev_if_eq (y := 0) pm_m87 d87_74 rfl rfl rfl
theorem d87_77 : decode prog_1_method_48_code 77 = .ok (.iload 7, 2) := by decide +kernel
theorem s87_77 {v0 v1 v2 v3 v4 v5 v6 : Value} {l1 : Int32} {st : List Value} {im : IM} {rm : RM}  : ev 87 77 [v0, v1, v2, v3, v4, v5, v6, .int l1] st im rm = ev 87 79 [v0, v1, v2, v3, v4, v5, v6, .int l1] (.int l1 :: st) (im) (rm) := ev_iload pm_m87 d87_77 rfl rfl
theorem d87_79 : decode prog_1_method_48_code 79 = .ok (.iload_n 3, 1) := by decide +kernel
theorem s87_79 {v0 v1 v2 v4 v5 v6 v7 : Value} {l1 : Int32} {st : List Value} {im : IM} {rm : RM}  : ev 87 79 [v0, v1, v2, .int l1, v4, v5, v6, v7] st im rm = ev 87 80 [v0, v1, v2, .int l1, v4, v5, v6, v7] (.int l1 :: st) (im) (rm) := ev_iload_n pm_m87 d87_79 rfl rfl
theorem d87_80 : decode prog_1_method_48_code 80 = .ok (.if_icmp .ge 15, 3) := by decide +kernel
theorem s87_80 {v0 v1 v2 v3 v4 v5 v6 v7 : Value} {x : Int32} {y : Int32} {st : List Value} {im : IM} {rm : RM} : ev 87 80 [v0, v1, v2, v3, v4, v5, v6, v7] (.int y :: .int x :: st) im rm = if y ≤ x then ev 87 95 [v0, v1, v2, v3, v4, v5, v6, pm_u] st im rm else ev 87 83 [v0, v1, v2, v3, v4, v5, v6, v7] st im rm := ev_icmp_ge pm_m87 d87_80 rfl rfl rfl
theorem d87_83 : decode prog_1_method_48_code 83 = .ok (.goto 9, 3) := by decide +kernel
theorem s87_83 {v0 v1 v2 v3 v4 v5 v6 v7 : Value}  {st : List Value} {im : IM} {rm : RM}  : ev 87 83 [v0, v1, v2, v3, v4, v5, v6, v7] st im rm = ev 87 92 [v0, v1, v2, pm_u, v4, v5, v6, v7] st (im) (rm) := ev_goto pm_m87 d87_83 rfl rfl
theorem d87_86 : decode prog_1_method_48_code 86 = .ok (.iload 7, 2) := by decide +kernel
theorem s87_86 {v0 v1 v2 v3 v4 v5 v6 : Value} {l1 : Int32} {st : List Value} {im : IM} {rm : RM}  : ev 87 86 [v0, v1, v2, v3, v4, v5, v6, .int l1] st im rm = ev 87 88 [v0, v1, v2, v3, v4, v5, v6, .int l1] (.int l1 :: st) (im) (rm) := ev_iload pm_m87 d87_86 rfl rfl
theorem d87_88 : decode prog_1_method_48_code 88 = .ok (.iload_n 3, 1) := by decide +kernel
theorem s87_88 {v0 v1 v2 v4 v5 v6 v7 : Value} {l1 : Int32} {st : List Value} {im : IM} {rm : RM}  : ev 87 88 [v0, v1, v2, .int l1, v4, v5, v6, v7] st im rm = ev 87 89 [v0, v1, v2, .int l1, v4, v5, v6, v7] (.int l1 :: st) (im) (rm) := ev_iload_n pm_m87 d87_88 rfl rfl
theorem d87_89 : decode prog_1_method_48_code 89 = .ok (.if_icmp .le 6, 3) := by decide +kernel
theorem s87_89 {v0 v1 v2 v3 v4 v5 v6 v7 : Value} {x : Int32} {y : Int32} {st : List Value} {im : IM} {rm : RM} : ev 87 89 [v0, v1, v2, v3, v4, v5, v6, v7] (.int y :: .int x :: st) im rm = if x ≤ y then ev 87 95 [v0, v1, v2, v3, v4, v5, v6, pm_u] st im rm else ev 87 92 [v0, v1, v2, pm_u, v4, v5, v6, v7] st im rm := ev_icmp_le pm_m87 d87_89 rfl rfl rfl
theorem d87_92 : decode prog_1_method_48_code 92 = .ok (.iload 7, 2) := by decide +kernel
theorem s87_92 {v0 v1 v2 v3 v4 v5 v6 : Value} {l1 : Int32} {st : List Value} {im : IM} {rm : RM}  : ev 87 92 [v0, v1, v2, v3, v4, v5, v6, .int l1] st im rm = ev 87 94 [v0, v1, v2, v3, v4, v5, v6, .int l1] (.int l1 :: st) (im) (rm) := ev_iload pm_m87 d87_92 rfl rfl
theorem d87_94 : decode prog_1_method_48_code 94 = .ok (.istore_n 3, 1) := by decide +kernel
theorem s87_94 {v0 v1 v3 v4 v5 v6 v7 : Value} {l1 : Int32} {x2 : Int32} {st : List Value} {im : IM} {rm : RM}  : ev 87 94 [v0, v1, .int l1, v3, v4, v5, v6, v7] (.int x2 :: st) im rm = ev 87 95 [v0, v1, .int l1, .int x2, v4, v5, v6, pm_u] st (im) (rm) := ev_istore_n pm_m87 d87_94 (Nat.le_of_ble_eq_true rfl) rfl rfl
theorem d87_95 : decode prog_1_method_48_code 95 = .ok (.iinc 6 1, 3) := by decide +kernel
theorem s87_95 {v0 v1 v2 v3 v4 v7 : Value} {l1 : Nat} {l2 : Int32} {st : List Value} {im : IM} {rm : RM}  : ev 87 95 [v0, v1, v2, v3, v4, .ref l1, .int l2, v7] st im rm = ev 87 98 [v0, v1, v2, v3, v4, .ref l1, .int (l2 + nI 1), v7] st (im) (rm) := ev_iinc pm_m87 d87_95 rfl rfl rfl rfl
theorem d87_98 : decode prog_1_method_48_code 98 = .ok (.goto (-69), 3) := by decide +kernel
theorem s87_98 {v0 v1 v2 v3 v4 v5 v6 v7 : Value}  {st : List Value} {im : IM} {rm : RM}  : ev 87 98 [v0, v1, v2, v3, v4, v5, v6, v7] st im rm = ev 87 29 [v0, v1, v2, v3, v4, v5, v6, pm_u] st (im) (rm) := ev_goto pm_m87 d87_98 rfl rfl
theorem d87_101 : decode prog_1_method_48_code 101 = .ok (.iinc 4 1, 3) := by decide +kernel
theorem s87_101 {v0 v1 v2 v5 v6 v7 : Value} {l1 : Int32} {l2 : Int32} {st : List Value} {im : IM} {rm : RM}  : ev 87 101 [v0, v1, v2, .int l1, .int l2, v5, v6, v7] st im rm = ev 87 104 [v0, v1, v2, .int l1, .int (l2 + nI 1), v5, v6, v7] st (im) (rm) := ev_iinc pm_m87 d87_101 rfl rfl rfl rfl
theorem d87_104 : decode prog_1_method_48_code 104 = .ok (.goto (-94), 3) := by decide +kernel
theorem s87_104 {v0 v1 v2 v3 v4 v5 v6 v7 : Value}  {st : List Value} {im : IM} {rm : RM}  : ev 87 104 [v0, v1, v2, v3, v4, v5, v6, v7] st im rm = ev 87 10 [v0, v1, v2, v3, v4, pm_u, pm_u, pm_u] st (im) (rm) := ev_goto pm_m87 d87_104 rfl rfl
theorem d87_107 : decode prog_1_method_48_code 107 = .ok (.iload_n 3, 1) := by decide +kernel
theorem s87_107 {v0 v1 v2 v4 v5 v6 v7 : Value} {l1 : Int32} {st : List Value} {im : IM} {rm : RM}  : ev 87 107 [v0, v1, v2, .int l1, v4, v5, v6, v7] st im rm = ev 87 108 [v0, v1, v2, .int l1, v4, v5, v6, v7] (.int l1 :: st) (im) (rm) := ev_iload_n pm_m87 d87_107 rfl rfl
theorem d87_108 : decode prog_1_method_48_code 108 = .ok (.iconst (-1), 1) := by decide +kernel
theorem s87_108 {v0 v1 v2 v3 v4 v5 v6 v7 : Value}  {st : List Value} {im : IM} {rm : RM}  : ev 87 108 [v0, v1, v2, v3, v4, v5, v6, v7] st im rm = ev 87 109 [v0, v1, v2, v3, v4, v5, v6, v7] (.int ((-1 : Int32)) :: st) (im) (rm) := ev_iconst pm_m87 d87_108 rfl rfl
theorem d87_109 : decode prog_1_method_48_code 109 = .ok (.if_icmp .ne 5, 3) := by decide +kernel
theorem s87_109 {v0 v1 v2 v3 v4 v5 v6 v7 : Value} {x : Int32} {y : Int32} {st : List Value} {im : IM} {rm : RM} : ev 87 109 [v0, v1, v2, v3, v4, v5, v6, v7] (.int y :: .int x :: st) im rm = if x = y then ev 87 112 [v0, v1, v2, v3, v4, v5, v6, v7] st im rm else ev 87 114 [pm_u, pm_u, v2, v3, pm_u, pm_u, pm_u, pm_u] st im rm := ev_icmp_ne pm_m87 d87_109 rfl rfl rfl
theorem d87_112 : decode prog_1_method_48_code 112 = .ok (.iconst (-1), 1) := by decide +kernel
theorem s87_112 {v0 v1 v2 v3 v4 v5 v6 v7 : Value}  {st : List Value} {im : IM} {rm : RM}  : ev 87 112 [v0, v1, v2, v3, v4, v5, v6, v7] st im rm = ev 87 113 [v0, v1, v2, v3, v4, v5, v6, v7] (.int ((-1 : Int32)) :: st) (im) (rm) := ev_iconst pm_m87 d87_112 rfl rfl
theorem d87_113 : decode prog_1_method_48_code 113 = .ok (.ireturn, 1) := by decide +kernel
theorem s87_113 {v0 v1 v2 v3 v4 v5 v6 v7 : Value} {x : Int32} {im : IM} {rm : RM} : ev 87 113 [v0, v1, v2, v3, v4, v5, v6, v7] [.int x] im rm = some (some (.int x), im, rm) := ev_ireturn pm_m87 d87_113 rfl
theorem d87_114 : decode prog_1_method_48_code 114 = .ok (.iload_n 2, 1) := by decide +kernel
theorem s87_114 {v0 v1 v3 v4 v5 v6 v7 : Value} {l1 : Int32} {st : List Value} {im : IM} {rm : RM}  : ev 87 114 [v0, v1, .int l1, v3, v4, v5, v6, v7] st im rm = ev 87 115 [v0, v1, .int l1, v3, v4, v5, v6, v7] (.int l1 :: st) (im) (rm) := ev_iload_n pm_m87 d87_114 rfl rfl
theorem d87_115 : decode prog_1_method_48_code 115 = .ok (.ifCond .eq 9, 3) := by decide +kernel
theorem s87_115 {v0 v1 v2 v3 v4 v5 v6 v7 : Value} {x : Int32} {st : List Value} {im : IM} {rm : RM} : ev 87 115 [v0, v1, v2, v3, v4, v5, v6, v7] (.int x :: st) im rm = if x = nI 0 then ev 87 124 [pm_u, pm_u, pm_u, v3, pm_u, pm_u, pm_u, pm_u] st im rm else ev 87 118 [v0, v1, v2, v3, v4, v5, v6, v7] st im rm := ev_if_eq (y := 0) pm_m87 d87_115 rfl rfl rfl
theorem d87_118 : decode prog_1_method_48_code 118 = .ok (.iload_n 3, 1) := by decide +kernel
theorem s87_118 {v0 v1 v2 v4 v5 v6 v7 : Value} {l1 : Int32} {st : List Value} {im : IM} {rm : RM}  : ev 87 118 [v0, v1, v2, .int l1, v4, v5, v6, v7] st im rm = ev 87 119 [v0, v1, v2, .int l1, v4, v5, v6, v7] (.int l1 :: st) (im) (rm) := ev_iload_n pm_m87 d87_118 rfl rfl
theorem d87_119 : decode prog_1_method_48_code 119 = .ok (.iconst 1, 1) := by decide +kernel
theorem s87_119 {v0 v1 v2 v3 v4 v5 v6 v7 : Value}  {st : List Value} {im : IM} {rm : RM}  : ev 87 119 [v0, v1, v2, v3, v4, v5, v6, v7] st im rm = ev 87 120 [v0, v1, v2, v3, v4, v5, v6, v7] (.int (nI 1) :: st) (im) (rm) := ev_iconst pm_m87 d87_119 rfl rfl
theorem d87_120 : decode prog_1_method_48_code 120 = .ok (.isub, 1) := by decide +kernel
theorem s87_120 {v0 v1 v2 v3 v4 v5 v6 v7 : Value} {x : Int32} {y : Int32} {st : List Value} {im : IM} {rm : RM}  : ev 87 120 [v0, v1, v2, v3, v4, v5, v6, v7] (.int y :: .int x :: st) im rm = ev 87 121 [v0, v1, v2, v3, v4, v5, v6, v7] (.int (x - y) :: st) (im) (rm) := ev_isub pm_m87 d87_120 rfl
theorem d87_121 : decode prog_1_method_48_code 121 = .ok (.goto 6, 3) := by decide +kernel
theorem s87_121 {v0 v1 v2 v3 v4 v5 v6 v7 : Value}  {st : List Value} {im : IM} {rm : RM}  : ev 87 121 [v0, v1, v2, v3, v4, v5, v6, v7] st im rm = ev 87 127 [pm_u, pm_u, pm_u, pm_u, pm_u, pm_u, pm_u, pm_u] st (im) (rm) := ev_goto pm_m87 d87_121 rfl rfl
theorem d87_124 : decode prog_1_method_48_code 124 = .ok (.iload_n 3, 1) := by decide +kernel
theorem s87_124 {v0 v1 v2 v4 v5 v6 v7 : Value} {l1 : Int32} {st : List Value} {im : IM} {rm : RM}  : ev 87 124 [v0, v1, v2, .int l1, v4, v5, v6, v7] st im rm = ev 87 125 [v0, v1, v2, .int l1, v4, v5, v6, v7] (.int l1 :: st) (im) (rm) := ev_iload_n pm_m87 d87_124 rfl rfl
theorem d87_125 : decode prog_1_method_48_code 125 = .ok (.iconst 1, 1) := by decide +kernel
theorem s87_125 {v0 v1 v2 v3 v4 v5 v6 v7 : Value}  {st : List Value} {im : IM} {rm : RM}  : ev 87 125 [v0, v1, v2, v3, v4, v5, v6, v7] st im rm = ev 87 126 [v0, v1, v2, v3, v4, v5, v6, v7] (.int (nI 1) :: st) (im) (rm) := ev_iconst pm_m87 d87_125 rfl rfl
theorem d87_126 : decode prog_1_method_48_code 126 = .ok (.iadd, 1) := by decide +kernel
theorem s87_126 {v0 v1 v2 v3 v4 v5 v6 v7 : Value} {x : Int32} {y : Int32} {st : List Value} {im : IM} {rm : RM}  : ev 87 126 [v0, v1, v2, v3, v4, v5, v6, v7] (.int y :: .int x :: st) im rm = ev 87 127 [pm_u, pm_u, pm_u, pm_u, pm_u, pm_u, pm_u, pm_u] (.int (x + y) :: st) (im) (rm) := ev_iadd pm_m87 d87_126 rfl
theorem d87_127 : decode prog_1_method_48_code 127 = .ok (.ireturn, 1) := by decide +kernel
theorem s87_127 {v0 v1 v2 v3 v4 v5 v6 v7 : Value} {x : Int32} {im : IM} {rm : RM} : ev 87 127 [v0, v1, v2, v3, v4, v5, v6, v7] [.int x] im rm = some (some (.int x), im, rm) := ev_ireturn pm_m87 d87_127 rfl
theorem d88_0 : decode prog_1_method_49_code 0 = .ok (.aload_n 0, 1) := by decide +kernel
theorem s88_0 {v1 v2 v3 v4 : Value} {l1 : Nat} {st : List Value} {im : IM} {rm : RM}  : ev 88 0 [.ref l1, v1, v2, v3, v4] st im rm = ev 88 1 [.ref l1, v1, v2, v3, v4] (.ref l1 :: st) (im) (rm) := ev_aload_n pm_m88 d88_0 rfl rfl
theorem d88_1 : decode prog_1_method_49_code 1 = .ok (.iload_n 1, 1) := by decide +kernel
theorem s88_1 {v0 v2 v3 v4 : Value} {l1 : Int32} {st : List Value} {im : IM} {rm : RM}  : ev 88 1 [v0, .int l1, v2, v3, v4] st im rm = ev 88 2 [v0, .int l1, v2, v3, v4] (.int l1 :: st) (im) (rm) := ev_iload_n pm_m88 d88_1 rfl rfl
theorem d88_2 : decode prog_1_method_49_code 2 = .ok (.invokevirtual 198, 3) := by decide +kernel
theorem s88_2 {v0 v1 v2 v3 v4 : Value} {a : Nat} {p1 : Int32} {im : IM} {rm : RM} (hk : kd a = 17) : ev 88 2 [v0, v1, v2, v3, v4] [.int p1, .ref a] im rm = (ev 87 0 [.ref a, .int p1, pm_u, pm_u, pm_u, pm_u, pm_u, pm_u] [] im rm).bind (fun r => ev 88 5 [v0, v1, v2, v3, v4] (r.1.toList ++ []) r.2.1 r.2.2) := ev_callV pm_m88 d88_2 l7_198 rfl pm_m87 (by decide) hk rfl ⟨rfl, rfl⟩ rfl rfl
theorem d88_5 : decode prog_1_method_49_code 5 = .ok (.istore_n 2, 1) := by decide +kernel
theorem s88_5 {v0 v2 v3 v4 : Value} {l1 : Int32} {x2 : Int32} {st : List Value} {im : IM} {rm : RM}  : ev 88 5 [v0, .int l1, v2, v3, v4] (.int x2 :: st) im rm = ev 88 6 [v0, .int l1, .int x2, v3, v4] st (im) (rm) := ev_istore_n pm_m88 d88_5 (Nat.le_of_ble_eq_true rfl) rfl rfl
theorem d88_6 : decode prog_1_method_49_code 6 = .ok (.iconst 0, 1) := by decide +kernel
theorem s88_6 {v0 v1 v2 v3 v4 : Value}  {st : List Value} {im : IM} {rm : RM}  : ev 88 6 [v0, v1, v2, v3, v4] st im rm = ev 88 7 [v0, v1, v2, v3, v4] (.int (nI 0) :: st) (im) (rm) := ev_iconst pm_m88 d88_6 rfl rfl
theorem d88_7 : decode prog_1_method_49_code 7 = .ok (.istore_n 3, 1) := by decide +kernel
theorem s88_7 {v0 v1 v3 v4 : Value} {l1 : Int32} {x2 : Int32} {st : List Value} {im : IM} {rm : RM}  : ev 88 7 [v0, v1, .int l1, v3, v4] (.int x2 :: st) im rm = ev 88 8 [v0, v1, .int l1, .int x2, v4] st (im) (rm) := ev_istore_n pm_m88 d88_7 (Nat.le_of_ble_eq_true rfl) rfl rfl
theorem d88_8 : decode prog_1_method_49_code 8 = .ok (.iconst 0, 1) := by decide +kernel
theorem s88_8 {v0 v1 v2 v3 v4 : Value}  {st : List Value} {im : IM} {rm : RM}  : ev 88 8 [v0, v1, v2, v3, v4] st im rm = ev 88 9 [v0, v1, v2, v3, v4] (.int (nI 0) :: st) (im) (rm) := ev_iconst pm_m88 d88_8 rfl rfl
theorem d88_9 : decode prog_1_method_49_code 9 = .ok (.istore 4, 2) := by decide +kernel
theorem s88_9 {v0 v1 v2 v4 : Value} {l1 : Int32} {x2 : Int32} {st : List Value} {im : IM} {rm : RM}  : ev 88 9 [v0, v1, v2, .int l1, v4] (.int x2 :: st) im rm = ev 88 11 [v0, v1, v2, .int l1, .int x2] st (im) (rm) := ev_istore pm_m88 d88_9 (Nat.le_of_ble_eq_true rfl) rfl rfl
theorem d88_11 : decode prog_1_method_49_code 11 = .ok (.iload_n 2, 1) := by decide +kernel
theorem s88_11 {v0 v1 v3 v4 : Value} {l1 : Int32} {st : List Value} {im : IM} {rm : RM}  : ev 88 11 [v0, v1, .int l1, v3, v4] st im rm = ev 88 12 [v0, v1, .int l1, v3, v4] (.int l1 :: st) (im) (rm) := ev_iload_n pm_m88 d88_11 rfl rfl
theorem d88_12 : decode prog_1_method_49_code 12 = .ok (.iconst (-1), 1) := by decide +kernel
theorem s88_12 {v0 v1 v2 v3 v4 : Value}  {st : List Value} {im : IM} {rm : RM}  : ev 88 12 [v0, v1, v2, v3, v4] st im rm = ev 88 13 [v0, v1, v2, v3, v4] (.int ((-1 : Int32)) :: st) (im) (rm) := ev_iconst pm_m88 d88_12 rfl rfl
theorem d88_13 : decode prog_1_method_49_code 13 = .ok (.if_icmp .eq 53, 3) := by decide +kernel
theorem s88_13 {v0 v1 v2 v3 v4 : Value} {x : Int32} {y : Int32} {st : List Value} {im : IM} {rm : RM} : ev 88 13 [v0, v1, v2, v3, v4] (.int y :: .int x :: st) im rm = if x = y then ev 88 66 [pm_u, pm_u, pm_u, v3, pm_u] st im rm else ev 88 16 [v0, v1, v2, v3, v4] st im rm := ev_icmp_eq pm_m88 d88_13 rfl rfl rfl
theorem d88_16 : decode prog_1_method_49_code 16 = .ok (.iload 4, 2) := by decide +kernel
theorem s88_16 {v0 v1 v2 v3 : Value} {l1 : Int32} {st : List Value} {im : IM} {rm : RM}  : ev 88 16 [v0, v1, v2, v3, .int l1] st im rm = ev 88 18 [v0, v1, v2, v3, .int l1] (.int l1 :: st) (im) (rm) := ev_iload pm_m88 d88_16 rfl rfl
theorem d88_18 : decode prog_1_method_49_code 18 = .ok (.bipush 6, 2) := by decide +kernel
theorem s88_18 {v0 v1 v2 v3 v4 : Value}  {st : List Value} {im : IM} {rm : RM}  : ev 88 18 [v0, v1, v2, v3, v4] st im rm = ev 88 20 [v0, v1, v2, v3, v4] (.int (nI 6) :: st) (im) (rm) := ev_bipush pm_m88 d88_18 rfl rfl
theorem d88_20 : decode prog_1_method_49_code 20 = .ok (.if_icmp .ge 46, 3) := by decide +kernel
theorem s88_20 {v0 v1 v2 v3 v4 : Value} {x : Int32} {y : Int32} {st : List Value} {im : IM} {rm : RM} : ev 88 20 [v0, v1, v2, v3, v4] (.int y :: .int x :: st) im rm = if y ≤ x then ev 88 66 [pm_u, pm_u, pm_u, v3, pm_u] st im rm else ev 88 23 [v0, v1, v2, v3, v4] st im rm := ev_icmp_ge pm_m88 d88_20 rfl rfl rfl
theorem d88_23 : decode prog_1_method_49_code 23 = .ok (.aload_n 0, 1) := by decide +kernel
theorem s88_23 {v1 v2 v3 v4 : Value} {l1 : Nat} {st : List Value} {im : IM} {rm : RM}  : ev 88 23 [.ref l1, v1, v2, v3, v4] st im rm = ev 88 24 [.ref l1, v1, v2, v3, v4] (.ref l1 :: st) (im) (rm) := ev_aload_n pm_m88 d88_23 rfl rfl
theorem d88_24 : decode prog_1_method_49_code 24 = .ok (.getfield 11, 3) := by decide +kernel
theorem s88_24 {v0 v1 v2 v3 v4 : Value} {a : Nat} {st : List Value} {im : IM} {rm : RM} (hk : kd a = 17) : ev 88 24 [v0, v1, v2, v3, v4] (.ref a :: st) im rm = ev 88 27 [v0, v1, v2, v3, v4] (pm_ro (rm a 0) :: st) (im) (rm) := ev_getR pm_m88 d88_24 f7_11 rfl hk rfl
theorem d88_27 : decode prog_1_method_49_code 27 = .ok (.iload 4, 2) := by decide +kernel
theorem s88_27 {v0 v1 v2 v3 : Value} {l1 : Int32} {st : List Value} {im : IM} {rm : RM}  : ev 88 27 [v0, v1, v2, v3, .int l1] st im rm = ev 88 29 [v0, v1, v2, v3, .int l1] (.int l1 :: st) (im) (rm) := ev_iload pm_m88 d88_27 rfl rfl
theorem d88_29 : decode prog_1_method_49_code 29 = .ok (.aaload, 1) := by decide +kernel
theorem s88_29 {v0 v1 v2 v3 v4 : Value} {a : Nat} {i : Int32} {st : List Value} {im : IM} {rm : RM} (hk : 2 ≤ kd a ∧ kd a ≤ 5) (hi : pm_in i (ln a) = true) : ev 88 29 [v0, v1, v2, v3, v4] (.int i :: .ref a :: st) im rm = ev 88 30 [v0, v1, v2, v3, v4] (pm_ro (rm a i.toNatClampNeg) :: st) (im) (rm) := ev_aald pm_m88 d88_29 hk hi rfl
theorem d88_30 : decode prog_1_method_49_code 30 = .ok (.getfield 246, 3) := by decide +kernel
theorem s88_30 {v0 v1 v2 v3 v4 : Value} {a : Nat} {st : List Value} {im : IM} {rm : RM} (hk : kd a = 10) : ev 88 30 [v0, v1, v2, v3, v4] (.ref a :: st) im rm = ev 88 33 [v0, v1, v2, v3, v4] (.int (im a 0) :: st) (im) (rm) := ev_getI pm_m88 d88_30 f7_246 rfl hk rfl
theorem d88_33 : decode prog_1_method_49_code 33 = .ok (.iconst 1, 1) := by decide +kernel
theorem s88_33 {v0 v1 v2 v3 v4 : Value}  {st : List Value} {im : IM} {rm : RM}  : ev 88 33 [v0, v1, v2, v3, v4] st im rm = ev 88 34 [v0, v1, v2, v3, v4] (.int (nI 1) :: st) (im) (rm) := ev_iconst pm_m88 d88_33 rfl rfl
theorem d88_34 : decode prog_1_method_49_code 34 = .ok (.if_icmp .ne 26, 3) := by decide +kernel
theorem s88_34 {v0 v1 v2 v3 v4 : Value} {x : Int32} {y : Int32} {st : List Value} {im : IM} {rm : RM} : ev 88 34 [v0, v1, v2, v3, v4] (.int y :: .int x :: st) im rm = if x = y then ev 88 37 [v0, v1, v2, v3, v4] st im rm else ev 88 60 [v0, v1, v2, v3, v4] st im rm := ev_icmp_ne pm_m88 d88_34 rfl rfl rfl
theorem d88_37 : decode prog_1_method_49_code 37 = .ok (.aload_n 0, 1) := by decide +kernel
theorem s88_37 {v1 v2 v3 v4 : Value} {l1 : Nat} {st : List Value} {im : IM} {rm : RM}  : ev 88 37 [.ref l1, v1, v2, v3, v4] st im rm = ev 88 38 [.ref l1, v1, v2, v3, v4] (.ref l1 :: st) (im) (rm) := ev_aload_n pm_m88 d88_37 rfl rfl
theorem d88_38 : decode prog_1_method_49_code 38 = .ok (.aload_n 0, 1) := by decide +kernel
theorem s88_38 {v1 v2 v3 v4 : Value} {l1 : Nat} {st : List Value} {im : IM} {rm : RM}  : ev 88 38 [.ref l1, v1, v2, v3, v4] st im rm = ev 88 39 [.ref l1, v1, v2, v3, v4] (.ref l1 :: st) (im) (rm) := ev_aload_n pm_m88 d88_38 rfl rfl
theorem d88_39 : decode prog_1_method_49_code 39 = .ok (.getfield 11, 3) := by decide +kernel
theorem s88_39 {v0 v1 v2 v3 v4 : Value} {a : Nat} {st : List Value} {im : IM} {rm : RM} (hk : kd a = 17) : ev 88 39 [v0, v1, v2, v3, v4] (.ref a :: st) im rm = ev 88 42 [v0, v1, v2, v3, v4] (pm_ro (rm a 0) :: st) (im) (rm) := ev_getR pm_m88 d88_39 f7_11 rfl hk rfl
theorem d88_42 : decode prog_1_method_49_code 42 = .ok (.iload 4, 2) := by decide +kernel
theorem s88_42 {v0 v1 v2 v3 : Value} {l1 : Int32} {st : List Value} {im : IM} {rm : RM}  : ev 88 42 [v0, v1, v2, v3, .int l1] st im rm = ev 88 44 [v0, v1, v2, v3, .int l1] (.int l1 :: st) (im) (rm) := ev_iload pm_m88 d88_42 rfl rfl
theorem d88_44 : decode prog_1_method_49_code 44 = .ok (.aaload, 1) := by decide +kernel
theorem s88_44 {v0 v1 v2 v3 v4 : Value} {a : Nat} {i : Int32} {st : List Value} {im : IM} {rm : RM} (hk : 2 ≤ kd a ∧ kd a ≤ 5) (hi : pm_in i (ln a) = true) : ev 88 44 [v0, v1, v2, v3, v4] (.int i :: .ref a :: st) im rm = ev 88 45 [v0, v1, v2, v3, v4] (pm_ro (rm a i.toNatClampNeg) :: st) (im) (rm) := ev_aald pm_m88 d88_44 hk hi rfl
theorem d88_45 : decode prog_1_method_49_code 45 = .ok (.iload_n 1, 1) := by decide +kernel
theorem s88_45 {v0 v2 v3 v4 : Value} {l1 : Int32} {st : List Value} {im : IM} {rm : RM}  : ev 88 45 [v0, .int l1, v2, v3, v4] st im rm = ev 88 46 [v0, .int l1, v2, v3, v4] (.int l1 :: st) (im) (rm) := ev_iload_n pm_m88 d88_45 rfl rfl
theorem d88_46 : decode prog_1_method_49_code 46 = .ok (.iload_n 2, 1) := by decide +kernel
theorem s88_46 {v0 v1 v3 v4 : Value} {l1 : Int32} {st : List Value} {im : IM} {rm : RM}  : ev 88 46 [v0, v1, .int l1, v3, v4] st im rm = ev 88 47 [v0, v1, .int l1, v3, v4] (.int l1 :: st) (im) (rm) := ev_iload_n pm_m88 d88_46 rfl rfl
theorem d88_47 : decode prog_1_method_49_code 47 = .ok (.invokevirtual 348, 3) := by decide +kernel
theorem s88_47 {v0 v1 v2 v3 v4 : Value} {a : Nat} {p1 : Nat} {p2 : Int32} {p3 : Int32} {im : IM} {rm : RM} (hk : kd a = 17) : ev 88 47 [v0, v1, v2, v3, v4] [.int p3, .int p2, .ref p1, .ref a] im rm = (ev 89 0 [.ref a, .ref p1, .int p2, .int p3, pm_u, pm_u] [] im rm).bind (fun r => ev 88 50 [v0, v1, v2, v3, v4] (r.1.toList ++ []) r.2.1 r.2.2) := ev_callV pm_m88 d88_47 l7_348 rfl pm_m89 (by decide) hk rfl ⟨rfl, rfl⟩ rfl rfl
theorem d88_50 : decode prog_1_method_49_code 50 = .ok (.ifCond .eq 10, 3) := by decide +kernel
theorem s88_50 {v0 v1 v2 v3 v4 : Value} {x : Int32} {st : List Value} {im : IM} {rm : RM} : ev 88 50 [v0, v1, v2, v3, v4] (.int x :: st) im rm = if x = nI 0 then ev 88 60 [v0, v1, v2, v3, v4] st im rm else ev 88 53 [v0, v1, v2, v3, v4] st im rm := ev_if_eq (y := 0) pm_m88 d88_50 rfl rfl rfl
theorem d88_53 : decode prog_1_method_49_code 53 = .ok (.iload_n 3, 1) := by decide +kernel
theorem s88_53 {v0 v1 v2 v4 : Value} {l1 : Int32} {st : List Value} {im : IM} {rm : RM}  : ev 88 53 [v0, v1, v2, .int l1, v4] st im rm = ev 88 54 [v0, v1, v2, .int l1, v4] (.int l1 :: st) (im) (rm) := ev_iload_n pm_m88 d88_53 rfl rfl
theorem d88_54 : decode prog_1_method_49_code 54 = .ok (.iconst 1, 1) := by decide +kernel
theorem s88_54 {v0 v1 v2 v3 v4 : Value}  {st : List Value} {im : IM} {rm : RM}  : ev 88 54 [v0, v1, v2, v3, v4] st im rm = ev 88 55 [v0, v1, v2, v3, v4] (.int (nI 1) :: st) (im) (rm) := ev_iconst pm_m88 d88_54 rfl rfl
theorem d88_55 : decode prog_1_method_49_code 55 = .ok (.iload 4, 2) := by decide +kernel
theorem s88_55 {v0 v1 v2 v3 : Value} {l1 : Int32} {st : List Value} {im : IM} {rm : RM}  : ev 88 55 [v0, v1, v2, v3, .int l1] st im rm = ev 88 57 [v0, v1, v2, v3, .int l1] (.int l1 :: st) (im) (rm) := ev_iload pm_m88 d88_55 rfl rfl
theorem d88_57 : decode prog_1_method_49_code 57 = .ok (.ishl, 1) := by decide +kernel
theorem s88_57 {v0 v1 v2 v3 v4 : Value} {x : Int32} {y : Int32} {st : List Value} {im : IM} {rm : RM}  : ev 88 57 [v0, v1, v2, v3, v4] (.int y :: .int x :: st) im rm = ev 88 58 [v0, v1, v2, v3, v4] (.int (x <<< (y &&& 31)) :: st) (im) (rm) := ev_ishl pm_m88 d88_57 rfl
theorem d88_58 : decode prog_1_method_49_code 58 = .ok (.ior, 1) := by decide +kernel
theorem s88_58 {v0 v1 v2 v3 v4 : Value} {x : Int32} {y : Int32} {st : List Value} {im : IM} {rm : RM}  : ev 88 58 [v0, v1, v2, v3, v4] (.int y :: .int x :: st) im rm = ev 88 59 [v0, v1, v2, v3, v4] (.int (x ||| y) :: st) (im) (rm) := ev_ior pm_m88 d88_58 rfl
theorem d88_59 : decode prog_1_method_49_code 59 = .ok (.istore_n 3, 1) := by decide +kernel
theorem s88_59 {v0 v1 v3 v4 : Value} {l1 : Int32} {x2 : Int32} {st : List Value} {im : IM} {rm : RM}  : ev 88 59 [v0, v1, .int l1, v3, v4] (.int x2 :: st) im rm = ev 88 60 [v0, v1, .int l1, .int x2, v4] st (im) (rm) := ev_istore_n pm_m88 d88_59 (Nat.le_of_ble_eq_true rfl) rfl rfl
theorem d88_60 : decode prog_1_method_49_code 60 = .ok (.iinc 4 1, 3) := by decide +kernel
theorem s88_60 {v0 v1 v2 : Value} {l1 : Int32} {l2 : Int32} {st : List Value} {im : IM} {rm : RM}  : ev 88 60 [v0, v1, v2, .int l1, .int l2] st im rm = ev 88 63 [v0, v1, v2, .int l1, .int (l2 + nI 1)] st (im) (rm) := ev_iinc pm_m88 d88_60 rfl rfl rfl rfl
theorem d88_63 : decode prog_1_method_49_code 63 = .ok (.goto (-52), 3) := by decide +kernel
theorem s88_63 {v0 v1 v2 v3 v4 : Value}  {st : List Value} {im : IM} {rm : RM}  : ev 88 63 [v0, v1, v2, v3, v4] st im rm = ev 88 11 [v0, v1, v2, v3, v4] st (im) (rm) := ev_goto pm_m88 d88_63 rfl rfl
theorem d88_66 : decode prog_1_method_49_code 66 = .ok (.iload_n 3, 1) := by decide +kernel
theorem s88_66 {v0 v1 v2 v4 : Value} {l1 : Int32} {st : List Value} {im : IM} {rm : RM}  : ev 88 66 [v0, v1, v2, .int l1, v4] st im rm = ev 88 67 [v0, v1, v2, .int l1, v4] (.int l1 :: st) (im) (rm) := ev_iload_n pm_m88 d88_66 rfl rfl
theorem d88_67 : decode prog_1_method_49_code 67 = .ok (.ireturn, 1) := by decide +kernel
theorem s88_67 {v0 v1 v2 v3 v4 : Value} {x : Int32} {im : IM} {rm : RM} : ev 88 67 [v0, v1, v2, v3, v4] [.int x] im rm = some (some (.int x), im, rm) := ev_ireturn pm_m88 d88_67 rfl
theorem d89_0 : decode prog_1_method_50_code 0 = .ok (.iconst 0, 1) := by decide +kernel
theorem s89_0 {v0 v1 v2 v3 v4 v5 : Value}  {st : List Value} {im : IM} {rm : RM}  : ev 89 0 [v0, v1, v2, v3, v4, v5] st im rm = ev 89 1 [v0, v1, v2, v3, v4, v5] (.int (nI 0) :: st) (im) (rm) := ev_iconst pm_m89 d89_0 rfl rfl
theorem d89_1 : decode prog_1_method_50_code 1 = .ok (.istore 4, 2) := by decide +kernel
theorem s89_1 {v0 v1 v2 v4 v5 : Value} {l1 : Int32} {x2 : Int32} {st : List Value} {im : IM} {rm : RM}  : ev 89 1 [v0, v1, v2, .int l1, v4, v5] (.int x2 :: st) im rm = ev 89 3 [v0, v1, v2, .int l1, .int x2, pm_u] st (im) (rm) := ev_istore pm_m89 d89_1 (Nat.le_of_ble_eq_true rfl) rfl rfl
theorem d89_3 : decode prog_1_method_50_code 3 = .ok (.iload 4, 2) := by decide +kernel
theorem s89_3 {v0 v1 v2 v3 v5 : Value} {l1 : Int32} {st : List Value} {im : IM} {rm : RM}  : ev 89 3 [v0, v1, v2, v3, .int l1, v5] st im rm = ev 89 5 [v0, v1, v2, v3, .int l1, v5] (.int l1 :: st) (im) (rm) := ev_iload pm_m89 d89_3 rfl rfl
theorem d89_5 : decode prog_1_method_50_code 5 = .ok (.aload_n 1, 1) := by decide +kernel
theorem s89_5 {v0 v2 v3 v4 v5 : Value} {l1 : Nat} {st : List Value} {im : IM} {rm : RM}  : ev 89 5 [v0, .ref l1, v2, v3, v4, v5] st im rm = ev 89 6 [v0, .ref l1, v2, v3, v4, v5] (.ref l1 :: st) (im) (rm) := ev_aload_n pm_m89 d89_5 rfl rfl
theorem d89_6 : decode prog_1_method_50_code 6 = .ok (.getfield 120, 3) := by decide +kernel
theorem s89_6 {v0 v1 v2 v3 v4 v5 : Value} {a : Nat} {st : List Value} {im : IM} {rm : RM} (hk : kd a = 10) : ev 89 6 [v0, v1, v2, v3, v4, v5] (.ref a :: st) im rm = ev 89 9 [v0, v1, v2, v3, v4, v5] (.int (im a 2) :: st) (im) (rm) := ev_getI pm_m89 d89_6 f7_120 rfl hk rfl
theorem d89_9 : decode prog_1_method_50_code 9 = .ok (.if_icmp .ge 53, 3) := by decide +kernel
theorem s89_9 {v0 v1 v2 v3 v4 v5 : Value} {x : Int32} {y : Int32} {st : List Value} {im : IM} {rm : RM} : ev 89 9 [v0, v1, v2, v3, v4, v5] (.int y :: .int x :: st) im rm = if y ≤ x then ev 89 62 [pm_u, pm_u, pm_u, pm_u, pm_u, pm_u] st im rm else ev 89 12 [v0, v1, v2, v3, v4, v5] st im rm := ev_icmp_ge pm_m89 d89_9 rfl rfl rfl
theorem d89_12 : decode prog_1_method_50_code 12 = .ok (.aload_n 1, 1) := by decide +kernel
theorem s89_12 {v0 v2 v3 v4 v5 : Value} {l1 : Nat} {st : List Value} {im : IM} {rm : RM}  : ev 89 12 [v0, .ref l1, v2, v3, v4, v5] st im rm = ev 89 13 [v0, .ref l1, v2, v3, v4, v5] (.ref l1 :: st) (im) (rm) := ev_aload_n pm_m89 d89_12 rfl rfl
theorem d89_13 : decode prog_1_method_50_code 13 = .ok (.iload 4, 2) := by decide +kernel
theorem s89_13 {v0 v1 v2 v3 v5 : Value} {l1 : Int32} {st : List Value} {im : IM} {rm : RM}  : ev 89 13 [v0, v1, v2, v3, .int l1, v5] st im rm = ev 89 15 [v0, v1, v2, v3, .int l1, v5] (.int l1 :: st) (im) (rm) := ev_iload pm_m89 d89_13 rfl rfl
theorem d89_15 : decode prog_1_method_50_code 15 = .ok (.aload_n 0, 1) := by decide +kernel
theorem s89_15 {v1 v2 v3 v4 v5 : Value} {l1 : Nat} {st : List Value} {im : IM} {rm : RM}  : ev 89 15 [.ref l1, v1, v2, v3, v4, v5] st im rm = ev 89 16 [.ref l1, v1, v2, v3, v4, v5] (.ref l1 :: st) (im) (rm) := ev_aload_n pm_m89 d89_15 rfl rfl
theorem d89_16 : decode prog_1_method_50_code 16 = .ok (.getfield 87, 3) := by decide +kernel
theorem s89_16 {v0 v1 v2 v3 v4 v5 : Value} {a : Nat} {st : List Value} {im : IM} {rm : RM} (hk : kd a = 17) : ev 89 16 [v0, v1, v2, v3, v4, v5] (.ref a :: st) im rm = ev 89 19 [v0, v1, v2, v3, v4, v5] (pm_ro (rm a 14) :: st) (im) (rm) := ev_getR pm_m89 d89_16 f7_87 rfl hk rfl
theorem d89_19 : decode prog_1_method_50_code 19 = .ok (.invokevirtual 144, 3) := by decide +kernel
theorem s89_19 {v0 v1 v2 v3 v4 v5 : Value} {a : Nat} {p1 : Int32} {p2 : Nat} {im : IM} {rm : RM} (hk : kd a = 10) : ev 89 19 [v0, v1, v2, v3, v4, v5] [.ref p2, .int p1, .ref a] im rm = (ev 6 0 [.ref a, .int p1, .ref p2] [] im rm).bind (fun r => ev 89 22 [v0, v1, v2, v3, v4, v5] (r.1.toList ++ []) r.2.1 r.2.2) := ev_callV pm_m89 d89_19 l7_144 rfl pm_m6 (by decide) hk rfl ⟨rfl, rfl⟩ rfl rfl
theorem d89_22 : decode prog_1_method_50_code 22 = .ok (.aload_n 0, 1) := by decide +kernel
theorem s89_22 {v1 v2 v3 v4 v5 : Value} {l1 : Nat} {st : List Value} {im : IM} {rm : RM}  : ev 89 22 [.ref l1, v1, v2, v3, v4, v5] st im rm = ev 89 23 [.ref l1, v1, v2, v3, v4, v5] (.ref l1 :: st) (im) (rm) := ev_aload_n pm_m89 d89_22 rfl rfl
theorem d89_23 : decode prog_1_method_50_code 23 = .ok (.getfield 87, 3) := by decide +kernel
theorem s89_23 {v0 v1 v2 v3 v4 v5 : Value} {a : Nat} {st : List Value} {im : IM} {rm : RM} (hk : kd a = 17) : ev 89 23 [v0, v1, v2, v3, v4, v5] (.ref a :: st) im rm = ev 89 26 [v0, v1, v2, v3, v4, v5] (pm_ro (rm a 14) :: st) (im) (rm) := ev_getR pm_m89 d89_23 f7_87 rfl hk rfl
theorem d89_26 : decode prog_1_method_50_code 26 = .ok (.iload_n 2, 1) := by decide +kernel
theorem s89_26 {v0 v1 v3 v4 v5 : Value} {l1 : Int32} {st : List Value} {im : IM} {rm : RM}  : ev 89 26 [v0, v1, .int l1, v3, v4, v5] st im rm = ev 89 27 [v0, v1, .int l1, v3, v4, v5] (.int l1 :: st) (im) (rm) := ev_iload_n pm_m89 d89_26 rfl rfl
theorem d89_27 : decode prog_1_method_50_code 27 = .ok (.iconst 2, 1) := by decide +kernel
theorem s89_27 {v0 v1 v2 v3 v4 v5 : Value}  {st : List Value} {im : IM} {rm : RM}  : ev 89 27 [v0, v1, v2, v3, v4, v5] st im rm = ev 89 28 [v0, v1, v2, v3, v4, v5] (.int (nI 2) :: st) (im) (rm) := ev_iconst pm_m89 d89_27 rfl rfl
theorem d89_28 : decode prog_1_method_50_code 28 = .ok (.idiv, 1) := by decide +kernel
theorem s89_28 {v0 v1 v2 v3 v4 v5 : Value} {x : Int32} {y : Int32} {st : List Value} {im : IM} {rm : RM} (h0 : ¬ y = 0) : ev 89 28 [v0, v1, v2, v3, v4, v5] (.int y :: .int x :: st) im rm = ev 89 29 [v0, v1, v2, v3, v4, v5] (.int (x / y) :: st) (im) (rm) := ev_idiv pm_m89 d89_28 h0 rfl
theorem d89_29 : decode prog_1_method_50_code 29 = .ok (.iaload, 1) := by decide +kernel
theorem s89_29 {v0 v1 v2 v3 v4 v5 : Value} {a : Nat} {i : Int32} {st : List Value} {im : IM} {rm : RM} (hk : kd a = 0) (hi : pm_in i (ln a) = true) : ev 89 29 [v0, v1, v2, v3, v4, v5] (.int i :: .ref a :: st) im rm = ev 89 30 [v0, v1, v2, v3, v4, v5] (.int (im a i.toNatClampNeg) :: st) (im) (rm) := ev_iald pm_m89 d89_29 hk hi rfl
theorem d89_30 : decode prog_1_method_50_code 30 = .ok (.istore 5, 2) := by decide +kernel
theorem s89_30 {v0 v1 v2 v3 v5 : Value} {l1 : Int32} {x2 : Int32} {st : List Value} {im : IM} {rm : RM}  : ev 89 30 [v0, v1, v2, v3, .int l1, v5] (.int x2 :: st) im rm = ev 89 32 [v0, v1, v2, v3, .int l1, .int x2] st (im) (rm) := ev_istore pm_m89 d89_30 (Nat.le_of_ble_eq_true rfl) rfl rfl
theorem d89_32 : decode prog_1_method_50_code 32 = .ok (.iload_n 2, 1) := by decide +kernel
theorem s89_32 {v0 v1 v3 v4 v5 : Value} {l1 : Int32} {st : List Value} {im : IM} {rm : RM}  : ev 89 32 [v0, v1, .int l1, v3, v4, v5] st im rm = ev 89 33 [v0, v1, .int l1, v3, v4, v5] (.int l1 :: st) (im) (rm) := ev_iload_n pm_m89 d89_32 rfl rfl
theorem d89_33 : decode prog_1_method_50_code 33 = .ok (.invokestatic 345, 3) := by decide +kernel
theorem s89_33 {v0 v1 v2 v3 v4 v5 : Value} {p1 : Int32} {im : IM} {rm : RM}  : ev 89 33 [v0, v1, v2, v3, v4, v5] [.int p1] im rm = (ev 86 0 [.int p1] [] im rm).bind (fun r => ev 89 36 [v0, v1, v2, v3, v4, v5] (r.1.toList ++ []) r.2.1 r.2.2) := ev_callS pm_m89 d89_33 (by decide) l7_345 rfl pm_m86 rfl ⟨rfl, rfl⟩ rfl rfl
theorem d89_36 : decode prog_1_method_50_code 36 = .ok (.ifCond .eq 12, 3) := by decide +kernel
theorem s89_36 {v0 v1 v2 v3 v4 v5 : Value} {x : Int32} {st : List Value} {im : IM} {rm : RM} : ev 89 36 [v0, v1, v2, v3, v4, v5] (.int x :: st) im rm = if x = nI 0 then ev 89 48 [v0, v1, v2, v3, v4, v5] st im rm else ev 89 39 [v0, v1, v2, v3, v4, v5] st im rm := ev_if_eq (y := 0) pm_m89 d89_36 rfl rfl rfl
theorem d89_39 : decode prog_1_method_50_code 39 = .ok (.iload 5, 2) := by decide +kernel
theorem s89_39 {v0 v1 v2 v3 v4 : Value} {l1 : Int32} {st : List Value} {im : IM} {rm : RM}  : ev 89 39 [v0, v1, v2, v3, v4, .int l1] st im rm = ev 89 41 [v0, v1, v2, v3, v4, .int l1] (.int l1 :: st) (im) (rm) := ev_iload pm_m89 d89_39 rfl rfl
theorem d89_41 : decode prog_1_method_50_code 41 = .ok (.iload_n 3, 1) := by decide +kernel
theorem s89_41 {v0 v1 v2 v4 v5 : Value} {l1 : Int32} {st : List Value} {im : IM} {rm : RM}  : ev 89 41 [v0, v1, v2, .int l1, v4, v5] st im rm = ev 89 42 [v0, v1, v2, .int l1, v4, v5] (.int l1 :: st) (im) (rm) := ev_iload_n pm_m89 d89_41 rfl rfl
theorem d89_42 : decode prog_1_method_50_code 42 = .ok (.if_icmp .gt 14, 3) := by decide +kernel
theorem s89_42 {v0 v1 v2 v3 v4 v5 : Value} {x : Int32} {y : Int32} {st : List Value} {im : IM} {rm : RM} : ev 89 42 [v0, v1, v2, v3, v4, v5] (.int y :: .int x :: st) im rm = if y < x then ev 89 56 [v0, v1, v2, v3, v4, pm_u] st im rm else ev 89 45 [v0, v1, v2, v3, v4, v5] st im rm := ev_icmp_gt pm_m89 d89_42 rfl rfl rfl
theorem d89_45 : decode prog_1_method_50_code 45 = .ok (.goto 9, 3) := by decide +kernel
theorem s89_45 {v0 v1 v2 v3 v4 v5 : Value}  {st : List Value} {im : IM} {rm : RM}  : ev 89 45 [v0, v1, v2, v3, v4, v5] st im rm = ev 89 54 [pm_u, pm_u, pm_u, pm_u, pm_u, pm_u] st (im) (rm) := ev_goto pm_m89 d89_45 rfl rfl
theorem d89_48 : decode prog_1_method_50_code 48 = .ok (.iload 5, 2) := by decide +kernel
theorem s89_48 {v0 v1 v2 v3 v4 : Value} {l1 : Int32} {st : List Value} {im : IM} {rm : RM}  : ev 89 48 [v0, v1, v2, v3, v4, .int l1] st im rm = ev 89 50 [v0, v1, v2, v3, v4, .int l1] (.int l1 :: st) (im) (rm) := ev_iload pm_m89 d89_48 rfl rfl
theorem d89_50 : decode prog_1_method_50_code 50 = .ok (.iload_n 3, 1) := by decide +kernel
theorem s89_50 {v0 v1 v2 v4 v5 : Value} {l1 : Int32} {st : List Value} {im : IM} {rm : RM}  : ev 89 50 [v0, v1, v2, .int l1, v4, v5] st im rm = ev 89 51 [v0, v1, v2, .int l1, v4, v5] (.int l1 :: st) (im) (rm) := ev_iload_n pm_m89 d89_50 rfl rfl
theorem d89_51 : decode prog_1_method_50_code 51 = .ok (.if_icmp .lt 5, 3) := by decide +kernel
theorem s89_51 {v0 v1 v2 v3 v4 v5 : Value} {x : Int32} {y : Int32} {st : List Value} {im : IM} {rm : RM} : ev 89 51 [v0, v1, v2, v3, v4, v5] (.int y :: .int x :: st) im rm = if x < y then ev 89 56 [v0, v1, v2, v3, v4, pm_u] st im rm else ev 89 54 [pm_u, pm_u, pm_u, pm_u, pm_u, pm_u] st im rm := ev_icmp_lt pm_m89 d89_51 rfl rfl rfl
theorem d89_54 : decode prog_1_method_50_code 54 = .ok (.iconst 1, 1) := by decide +kernel
theorem s89_54 {v0 v1 v2 v3 v4 v5 : Value}  {st : List Value} {im : IM} {rm : RM}  : ev 89 54 [v0, v1, v2, v3, v4, v5] st im rm = ev 89 55 [v0, v1, v2, v3, v4, v5] (.int (nI 1) :: st) (im) (rm) := ev_iconst pm_m89 d89_54 rfl rfl
theorem d89_55 : decode prog_1_method_50_code 55 = .ok (.ireturn, 1) := by decide +kernel
theorem s89_55 {v0 v1 v2 v3 v4 v5 : Value} {x : Int32} {im : IM} {rm : RM} (hx : x = 0 ∨ x = 1) : ev 89 55 [v0, v1, v2, v3, v4, v5] [.int x] im rm = some (some (.int x), im, rm) := ev_zreturn pm_m89 d89_55 rfl hx
theorem d89_56 : decode prog_1_method_50_code 56 = .ok (.iinc 4 1, 3) := by decide +kernel
theorem s89_56 {v0 v1 v2 v5 : Value} {l1 : Int32} {l2 : Int32} {st : List Value} {im : IM} {rm : RM}  : ev 89 56 [v0, v1, v2, .int l1, .int l2, v5] st im rm = ev 89 59 [v0, v1, v2, .int l1, .int (l2 + nI 1), v5] st (im) (rm) := ev_iinc pm_m89 d89_56 rfl rfl rfl rfl
theorem d89_59 : decode prog_1_method_50_code 59 = .ok (.goto (-56), 3) := by decide +kernel
theorem s89_59 {v0 v1 v2 v3 v4 v5 : Value}  {st : List Value} {im : IM} {rm : RM}  : ev 89 59 [v0, v1, v2, v3, v4, v5] st im rm = ev 89 3 [v0, v1, v2, v3, v4, pm_u] st (im) (rm) := ev_goto pm_m89 d89_59 rfl rfl
theorem d89_62 : decode prog_1_method_50_code 62 = .ok (.iconst 0, 1) := by decide +kernel
theorem s89_62 {v0 v1 v2 v3 v4 v5 : Value}  {st : List Value} {im : IM} {rm : RM}  : ev 89 62 [v0, v1, v2, v3, v4, v5] st im rm = ev 89 63 [v0, v1, v2, v3, v4, v5] (.int (nI 0) :: st) (im) (rm) := ev_iconst pm_m89 d89_62 rfl rfl
theorem d89_63 : decode prog_1_method_50_code 63 = .ok (.ireturn, 1) := by decide +kernel
theorem s89_63 {v0 v1 v2 v3 v4 v5 : Value} {x : Int32} {im : IM} {rm : RM} (hx : x = 0 ∨ x = 1) : ev 89 63 [v0, v1, v2, v3, v4, v5] [.int x] im rm = some (some (.int x), im, rm) := ev_zreturn pm_m89 d89_63 rfl hx
theorem d90_0 : decode prog_1_method_51_code 0 = .ok (.ldc_w 352, 3) := by decide +kernel
theorem s90_0 {v0 v1 v2 v3 v4 v5 v6 : Value}  {st : List Value} {im : IM} {rm : RM}  : ev 90 0 [v0, v1, v2, v3, v4, v5, v6] st im rm = ev 90 3 [v0, v1, v2, v3, v4, v5, v6] (.int (nI 65536) :: st) (im) (rm) := ev_ldcw pm_m90 d90_0 (by decide +kernel) rfl
theorem d90_3 : decode prog_1_method_51_code 3 = .ok (.iconst 1, 1) := by decide +kernel
theorem s90_3 {v0 v1 v2 v3 v4 v5 v6 : Value}  {st : List Value} {im : IM} {rm : RM}  : ev 90 3 [v0, v1, v2, v3, v4, v5, v6] st im rm = ev 90 4 [v0, v1, v2, v3, v4, v5, v6] (.int (nI 1) :: st) (im) (rm) := ev_iconst pm_m90 d90_3 rfl rfl
theorem d90_4 : decode prog_1_method_51_code 4 = .ok (.iload_n 1, 1) := by decide +kernel
theorem s90_4 {v0 v2 v3 v4 v5 v6 : Value} {l1 : Int32} {st : List Value} {im : IM} {rm : RM}  : ev 90 4 [v0, .int l1, v2, v3, v4, v5, v6] st im rm = ev 90 5 [v0, .int l1, v2, v3, v4, v5, v6] (.int l1 :: st) (im) (rm) := ev_iload_n pm_m90 d90_4 rfl rfl
theorem d90_5 : decode prog_1_method_51_code 5 = .ok (.ishl, 1) := by decide +kernel
theorem s90_5 {v0 v1 v2 v3 v4 v5 v6 : Value} {x : Int32} {y : Int32} {st : List Value} {im : IM} {rm : RM}  : ev 90 5 [v0, v1, v2, v3, v4, v5, v6] (.int y :: .int x :: st) im rm = ev 90 6 [v0, v1, v2, v3, v4, v5, v6] (.int (x <<< (y &&& 31)) :: st) (im) (rm) := ev_ishl pm_m90 d90_5 rfl
theorem d90_6 : decode prog_1_method_51_code 6 = .ok (.ior, 1) := by decide +kernel
theorem s90_6 {v0 v1 v2 v3 v4 v5 v6 : Value} {x : Int32} {y : Int32} {st : List Value} {im : IM} {rm : RM}  : ev 90 6 [v0, v1, v2, v3, v4, v5, v6] (.int y :: .int x :: st) im rm = ev 90 7 [v0, v1, v2, v3, v4, v5, v6] (.int (x ||| y) :: st) (im) (rm) := ev_ior pm_m90 d90_6 rfl
theorem d90_7 : decode prog_1_method_51_code 7 = .ok (.istore 4, 2) := by decide +kernel
theorem s90_7 {v0 v1 v2 v4 v5 v6 : Value} {l1 : Int32} {x2 : Int32} {st : List Value} {im : IM} {rm : RM}  : ev 90 7 [v0, v1, v2, .int l1, v4, v5, v6] (.int x2 :: st) im rm = ev 90 9 [v0, v1, v2, .int l1, .int x2, v5, v6] st (im) (rm) := ev_istore pm_m90 d90_7 (Nat.le_of_ble_eq_true rfl) rfl rfl
theorem d90_9 : decode prog_1_method_51_code 9 = .ok (.aload_n 0, 1) := by decide +kernel
theorem s90_9 {v1 v2 v3 v4 v5 v6 : Value} {l1 : Nat} {st : List Value} {im : IM} {rm : RM}  : ev 90 9 [.ref l1, v1, v2, v3, v4, v5, v6] st im rm = ev 90 10 [.ref l1, v1, v2, v3, v4, v5, v6] (.ref l1 :: st) (im) (rm) := ev_aload_n pm_m90 d90_9 rfl rfl
theorem d90_10 : decode prog_1_method_51_code 10 = .ok (.getfield 99, 3) := by decide +kernel
theorem s90_10 {v0 v1 v2 v3 v4 v5 v6 : Value} {a : Nat} {st : List Value} {im : IM} {rm : RM} (hk : kd a = 17) : ev 90 10 [v0, v1, v2, v3, v4, v5, v6] (.ref a :: st) im rm = ev 90 13 [v0, v1, v2, v3, v4, v5, v6] (pm_ro (rm a 18) :: st) (im) (rm) := ev_getR pm_m90 d90_10 f7_99 rfl hk rfl
theorem d90_13 : decode prog_1_method_51_code 13 = .ok (.arraylength, 1) := by decide +kernel
theorem s90_13 {v0 v1 v2 v3 v4 v5 v6 : Value} {a : Nat} {st : List Value} {im : IM} {rm : RM} (hk : kd a ≤ 5) : ev 90 13 [v0, v1, v2, v3, v4, v5, v6] (.ref a :: st) im rm = ev 90 14 [v0, v1, v2, v3, v4, v5, v6] (.int (nI (ln a)) :: st) (im) (rm) := ev_alen pm_m90 d90_13 hk rfl
theorem d90_14 : decode prog_1_method_51_code 14 = .ok (.iconst 1, 1) := by decide +kernel
theorem s90_14 {v0 v1 v2 v3 v4 v5 v6 : Value}  {st : List Value} {im : IM} {rm : RM}  : ev 90 14 [v0, v1, v2, v3, v4, v5, v6] st im rm = ev 90 15 [v0, v1, v2, v3, v4, v5, v6] (.int (nI 1) :: st) (im) (rm) := ev_iconst pm_m90 d90_14 rfl rfl
theorem d90_15 : decode prog_1_method_51_code 15 = .ok (.isub, 1) := by decide +kernel
theorem s90_15 {v0 v1 v2 v3 v4 v5 v6 : Value} {x : Int32} {y : Int32} {st : List Value} {im : IM} {rm : RM}  : ev 90 15 [v0, v1, v2, v3, v4, v5, v6] (.int y :: .int x :: st) im rm = ev 90 16 [v0, v1, v2, v3, v4, v5, v6] (.int (x - y) :: st) (im) (rm) := ev_isub pm_m90 d90_15 rfl
theorem d90_16 : decode prog_1_method_51_code 16 = .ok (.istore 5, 2) := by decide +kernel
theorem s90_16 {v0 v1 v2 v3 v5 v6 : Value} {l1 : Int32} {x2 : Int32} {st : List Value} {im : IM} {rm : RM}  : ev 90 16 [v0, v1, v2, v3, .int l1, v5, v6] (.int x2 :: st) im rm = ev 90 18 [v0, pm_u, v2, v3, .int l1, .int x2, pm_u] st (im) (rm) := ev_istore pm_m90 d90_16 (Nat.le_of_ble_eq_true rfl) rfl rfl
theorem d90_18 : decode prog_1_method_51_code 18 = .ok (.iload 5, 2) := by decide +kernel
theorem s90_18 {v0 v1 v2 v3 v4 v6 : Value} {l1 : Int32} {st : List Value} {im : IM} {rm : RM}  : ev 90 18 [v0, v1, v2, v3, v4, .int l1, v6] st im rm = ev 90 20 [v0, v1, v2, v3, v4, .int l1, v6] (.int l1 :: st) (im) (rm) := ev_iload pm_m90 d90_18 rfl rfl
theorem d90_20 : decode prog_1_method_51_code 20 = .ok (.ifCond .lt 61, 3) := by decide +kernel
theorem s90_20 {v0 v1 v2 v3 v4 v5 v6 : Value} {x : Int32} {st : List Value} {im : IM} {rm : RM} : ev 90 20 [v0, v1, v2, v3, v4, v5, v6] (.int x :: st) im rm = if x < nI 0 then ev 90 81 [pm_u, pm_u, pm_u, pm_u, pm_u, pm_u, pm_u] st im rm else ev 90 23 [v0, v1, v2, v3, v4, v5, v6] st im rm := ev_if_lt (y := 0) pm_m90 d90_20 rfl rfl rfl
theorem d90_23 : decode prog_1_method_51_code 23 = .ok (.aload_n 0, 1) := by decide +kernel
theorem s90_23 {v1 v2 v3 v4 v5 v6 : Value} {l1 : Nat} {st : List Value} {im : IM} {rm : RM}  : ev 90 23 [.ref l1, v1, v2, v3, v4, v5, v6] st im rm = ev 90 24 [.ref l1, v1, v2, v3, v4, v5, v6] (.ref l1 :: st) (im) (rm) := ev_aload_n pm_m90 d90_23 rfl rfl
theorem d90_24 : decode prog_1_method_51_code 24 = .ok (.getfield 99, 3) := by decide +kernel
theorem s90_24 {v0 v1 v2 v3 v4 v5 v6 : Value} {a : Nat} {st : List Value} {im : IM} {rm : RM} (hk : kd a = 17) : ev 90 24 [v0, v1, v2, v3, v4, v5, v6] (.ref a :: st) im rm = ev 90 27 [v0, v1, v2, v3, v4, v5, v6] (pm_ro (rm a 18) :: st) (im) (rm) := ev_getR pm_m90 d90_24 f7_99 rfl hk rfl
theorem d90_27 : decode prog_1_method_51_code 27 = .ok (.iload 5, 2) := by decide +kernel
theorem s90_27 {v0 v1 v2 v3 v4 v6 : Value} {l1 : Int32} {st : List Value} {im : IM} {rm : RM}  : ev 90 27 [v0, v1, v2, v3, v4, .int l1, v6] st im rm = ev 90 29 [v0, v1, v2, v3, v4, .int l1, v6] (.int l1 :: st) (im) (rm) := ev_iload pm_m90 d90_27 rfl rfl
theorem d90_29 : decode prog_1_method_51_code 29 = .ok (.iaload, 1) := by decide +kernel
theorem s90_29 {v0 v1 v2 v3 v4 v5 v6 : Value} {a : Nat} {i : Int32} {st : List Value} {im : IM} {rm : RM} (hk : kd a = 0) (hi : pm_in i (ln a) = true) : ev 90 29 [v0, v1, v2, v3, v4, v5, v6] (.int i :: .ref a :: st) im rm = ev 90 30 [v0, v1, v2, v3, v4, v5, v6] (.int (im a i.toNatClampNeg) :: st) (im) (rm) := ev_iald pm_m90 d90_29 hk hi rfl
theorem d90_30 : decode prog_1_method_51_code 30 = .ok (.iload_n 3, 1) := by decide +kernel
theorem s90_30 {v0 v1 v2 v4 v5 v6 : Value} {l1 : Int32} {st : List Value} {im : IM} {rm : RM}  : ev 90 30 [v0, v1, v2, .int l1, v4, v5, v6] st im rm = ev 90 31 [v0, v1, v2, .int l1, v4, v5, v6] (.int l1 :: st) (im) (rm) := ev_iload_n pm_m90 d90_30 rfl rfl
theorem d90_31 : decode prog_1_method_51_code 31 = .ok (.if_icmp .ge 44, 3) := by decide +kernel
theorem s90_31 {v0 v1 v2 v3 v4 v5 v6 : Value} {x : Int32} {y : Int32} {st : List Value} {im : IM} {rm : RM} : ev 90 31 [v0, v1, v2, v3, v4, v5, v6] (.int y :: .int x :: st) im rm = if y ≤ x then ev 90 75 [v0, pm_u, v2, v3, v4, v5, pm_u] st im rm else ev 90 34 [v0, v1, v2, v3, v4, v5, v6] st im rm := ev_icmp_ge pm_m90 d90_31 rfl rfl rfl
theorem d90_34 : decode prog_1_method_51_code 34 = .ok (.iload 5, 2) := by decide +kernel
theorem s90_34 {v0 v1 v2 v3 v4 v6 : Value} {l1 : Int32} {st : List Value} {im : IM} {rm : RM}  : ev 90 34 [v0, v1, v2, v3, v4, .int l1, v6] st im rm = ev 90 36 [v0, v1, v2, v3, v4, .int l1, v6] (.int l1 :: st) (im) (rm) := ev_iload pm_m90 d90_34 rfl rfl
theorem d90_36 : decode prog_1_method_51_code 36 = .ok (.iload_n 2, 1) := by decide +kernel
theorem s90_36 {v0 v1 v3 v4 v5 v6 : Value} {l1 : Int32} {st : List Value} {im : IM} {rm : RM}  : ev 90 36 [v0, v1, .int l1, v3, v4, v5, v6] st im rm = ev 90 37 [v0, v1, .int l1, v3, v4, v5, v6] (.int l1 :: st) (im) (rm) := ev_iload_n pm_m90 d90_36 rfl rfl
theorem d90_37 : decode prog_1_method_51_code 37 = .ok (.iand, 1) := by decide +kernel
theorem s90_37 {v0 v1 v2 v3 v4 v5 v6 : Value} {x : Int32} {y : Int32} {st : List Value} {im : IM} {rm : RM}  : ev 90 37 [v0, v1, v2, v3, v4, v5, v6] (.int y :: .int x :: st) im rm = ev 90 38 [v0, v1, v2, v3, v4, v5, v6] (.int (x &&& y) :: st) (im) (rm) := ev_iand pm_m90 d90_37 rfl
theorem d90_38 : decode prog_1_method_51_code 38 = .ok (.iload_n 2, 1) := by decide +kernel
theorem s90_38 {v0 v1 v3 v4 v5 v6 : Value} {l1 : Int32} {st : List Value} {im : IM} {rm : RM}  : ev 90 38 [v0, v1, .int l1, v3, v4, v5, v6] st im rm = ev 90 39 [v0, v1, .int l1, v3, v4, v5, v6] (.int l1 :: st) (im) (rm) := ev_iload_n pm_m90 d90_38 rfl rfl
theorem d90_39 : decode prog_1_method_51_code 39 = .ok (.if_icmp .eq 36, 3) := by decide +kernel
theorem s90_39 {v0 v1 v2 v3 v4 v5 v6 : Value} {x : Int32} {y : Int32} {st : List Value} {im : IM} {rm : RM} : ev 90 39 [v0, v1, v2, v3, v4, v5, v6] (.int y :: .int x :: st) im rm = if x = y then ev 90 75 [v0, pm_u, v2, v3, v4, v5, pm_u] st im rm else ev 90 42 [v0, v1, v2, v3, v4, v5, v6] st im rm := ev_icmp_eq pm_m90 d90_39 rfl rfl rfl
theorem d90_42 : decode prog_1_method_51_code 42 = .ok (.iload 5, 2) := by decide +kernel
theorem s90_42 {v0 v1 v2 v3 v4 v6 : Value} {l1 : Int32} {st : List Value} {im : IM} {rm : RM}  : ev 90 42 [v0, v1, v2, v3, v4, .int l1, v6] st im rm = ev 90 44 [v0, v1, v2, v3, v4, .int l1, v6] (.int l1 :: st) (im) (rm) := ev_iload pm_m90 d90_42 rfl rfl
theorem d90_44 : decode prog_1_method_51_code 44 = .ok (.iload_n 2, 1) := by decide +kernel
theorem s90_44 {v0 v1 v3 v4 v5 v6 : Value} {l1 : Int32} {st : List Value} {im : IM} {rm : RM}  : ev 90 44 [v0, v1, .int l1, v3, v4, v5, v6] st im rm = ev 90 45 [v0, v1, .int l1, v3, v4, v5, v6] (.int l1 :: st) (im) (rm) := ev_iload_n pm_m90 d90_44 rfl rfl
theorem d90_45 : decode prog_1_method_51_code 45 = .ok (.ior, 1) := by decide +kernel
theorem s90_45 {v0 v1 v2 v3 v4 v5 v6 : Value} {x : Int32} {y : Int32} {st : List Value} {im : IM} {rm : RM}  : ev 90 45 [v0, v1, v2, v3, v4, v5, v6] (.int y :: .int x :: st) im rm = ev 90 46 [v0, v1, v2, v3, v4, v5, v6] (.int (x ||| y) :: st) (im) (rm) := ev_ior pm_m90 d90_45 rfl
theorem d90_46 : decode prog_1_method_51_code 46 = .ok (.istore 6, 2) := by decide +kernel
theorem s90_46 {v0 v1 v2 v3 v4 v6 : Value} {l1 : Int32} {x2 : Int32} {st : List Value} {im : IM} {rm : RM}  : ev 90 46 [v0, v1, v2, v3, v4, .int l1, v6] (.int x2 :: st) im rm = ev 90 48 [v0, v1, v2, v3, v4, .int l1, .int x2] st (im) (rm) := ev_istore pm_m90 d90_46 (Nat.le_of_ble_eq_true rfl) rfl rfl
theorem d90_48 : decode prog_1_method_51_code 48 = .ok (.aload_n 0, 1) := by decide +kernel
theorem s90_48 {v1 v2 v3 v4 v5 v6 : Value} {l1 : Nat} {st : List Value} {im : IM} {rm : RM}  : ev 90 48 [.ref l1, v1, v2, v3, v4, v5, v6] st im rm = ev 90 49 [.ref l1, v1, v2, v3, v4, v5, v6] (.ref l1 :: st) (im) (rm) := ev_aload_n pm_m90 d90_48 rfl rfl
theorem d90_49 : decode prog_1_method_51_code 49 = .ok (.getfield 99, 3) := by decide +kernel
theorem s90_49 {v0 v1 v2 v3 v4 v5 v6 : Value} {a : Nat} {st : List Value} {im : IM} {rm : RM} (hk : kd a = 17) : ev 90 49 [v0, v1, v2, v3, v4, v5, v6] (.ref a :: st) im rm = ev 90 52 [v0, v1, v2, v3, v4, v5, v6] (pm_ro (rm a 18) :: st) (im) (rm) := ev_getR pm_m90 d90_49 f7_99 rfl hk rfl
theorem d90_52 : decode prog_1_method_51_code 52 = .ok (.iload 6, 2) := by decide +kernel
theorem s90_52 {v0 v1 v2 v3 v4 v5 : Value} {l1 : Int32} {st : List Value} {im : IM} {rm : RM}  : ev 90 52 [v0, v1, v2, v3, v4, v5, .int l1] st im rm = ev 90 54 [v0, v1, v2, v3, v4, v5, .int l1] (.int l1 :: st) (im) (rm) := ev_iload pm_m90 d90_52 rfl rfl
theorem d90_54 : decode prog_1_method_51_code 54 = .ok (.aload_n 0, 1) := by decide +kernel
theorem s90_54 {v1 v2 v3 v4 v5 v6 : Value} {l1 : Nat} {st : List Value} {im : IM} {rm : RM}  : ev 90 54 [.ref l1, v1, v2, v3, v4, v5, v6] st im rm = ev 90 55 [.ref l1, v1, v2, v3, v4, v5, v6] (.ref l1 :: st) (im) (rm) := ev_aload_n pm_m90 d90_54 rfl rfl
theorem d90_55 : decode prog_1_method_51_code 55 = .ok (.getfield 99, 3) := by decide +kernel
theorem s90_55 {v0 v1 v2 v3 v4 v5 v6 : Value} {a : Nat} {st : List Value} {im : IM} {rm : RM} (hk : kd a = 17) : ev 90 55 [v0, v1, v2, v3, v4, v5, v6] (.ref a :: st) im rm = ev 90 58 [v0, v1, v2, v3, v4, v5, v6] (pm_ro (rm a 18) :: st) (im) (rm) := ev_getR pm_m90 d90_55 f7_99 rfl hk rfl
theorem d90_58 : decode prog_1_method_51_code 58 = .ok (.iload 6, 2) := by decide +kernel
theorem s90_58 {v0 v1 v2 v3 v4 v5 : Value} {l1 : Int32} {st : List Value} {im : IM} {rm : RM}  : ev 90 58 [v0, v1, v2, v3, v4, v5, .int l1] st im rm = ev 90 60 [v0, v1, v2, v3, v4, v5, .int l1] (.int l1 :: st) (im) (rm) := ev_iload pm_m90 d90_58 rfl rfl
theorem d90_60 : decode prog_1_method_51_code 60 = .ok (.iaload, 1) := by decide +kernel
theorem s90_60 {v0 v1 v2 v3 v4 v5 v6 : Value} {a : Nat} {i : Int32} {st : List Value} {im : IM} {rm : RM} (hk : kd a = 0) (hi : pm_in i (ln a) = true) : ev 90 60 [v0, v1, v2, v3, v4, v5, v6] (.int i :: .ref a :: st) im rm = ev 90 61 [v0, v1, v2, v3, v4, v5, v6] (.int (im a i.toNatClampNeg) :: st) (im) (rm) := ev_iald pm_m90 d90_60 hk hi rfl
theorem d90_61 : decode prog_1_method_51_code 61 = .ok (.aload_n 0, 1) := by decide +kernel
theorem s90_61 {v1 v2 v3 v4 v5 v6 : Value} {l1 : Nat} {st : List Value} {im : IM} {rm : RM}  : ev 90 61 [.ref l1, v1, v2, v3, v4, v5, v6] st im rm = ev 90 62 [.ref l1, v1, v2, v3, v4, v5, v6] (.ref l1 :: st) (im) (rm) := ev_aload_n pm_m90 d90_61 rfl rfl
theorem d90_62 : decode prog_1_method_51_code 62 = .ok (.getfield 99, 3) := by decide +kernel
theorem s90_62 {v0 v1 v2 v3 v4 v5 v6 : Value} {a : Nat} {st : List Value} {im : IM} {rm : RM} (hk : kd a = 17) : ev 90 62 [v0, v1, v2, v3, v4, v5, v6] (.ref a :: st) im rm = ev 90 65 [v0, v1, v2, v3, v4, v5, v6] (pm_ro (rm a 18) :: st) (im) (rm) := ev_getR pm_m90 d90_62 f7_99 rfl hk rfl
theorem d90_65 : decode prog_1_method_51_code 65 = .ok (.iload 5, 2) := by decide +kernel
theorem s90_65 {v0 v1 v2 v3 v4 v6 : Value} {l1 : Int32} {st : List Value} {im : IM} {rm : RM}  : ev 90 65 [v0, v1, v2, v3, v4, .int l1, v6] st im rm = ev 90 67 [v0, v1, v2, v3, v4, .int l1, v6] (.int l1 :: st) (im) (rm) := ev_iload pm_m90 d90_65 rfl rfl
theorem d90_67 : decode prog_1_method_51_code 67 = .ok (.iaload, 1) := by decide +kernel
theorem s90_67 {v0 v1 v2 v3 v4 v5 v6 : Value} {a : Nat} {i : Int32} {st : List Value} {im : IM} {rm : RM} (hk : kd a = 0) (hi : pm_in i (ln a) = true) : ev 90 67 [v0, v1, v2, v3, v4, v5, v6] (.int i :: .ref a :: st) im rm = ev 90 68 [v0, v1, v2, v3, v4, v5, v6] (.int (im a i.toNatClampNeg) :: st) (im) (rm) := ev_iald pm_m90 d90_67 hk hi rfl
theorem d90_68 : decode prog_1_method_51_code 68 = .ok (.iload 4, 2) := by decide +kernel
theorem s90_68 {v0 v1 v2 v3 v5 v6 : Value} {l1 : Int32} {st : List Value} {im : IM} {rm : RM}  : ev 90 68 [v0, v1, v2, v3, .int l1, v5, v6] st im rm = ev 90 70 [v0, v1, v2, v3, .int l1, v5, v6] (.int l1 :: st) (im) (rm) := ev_iload pm_m90 d90_68 rfl rfl
theorem d90_70 : decode prog_1_method_51_code 70 = .ok (.iadd, 1) := by decide +kernel
theorem s90_70 {v0 v1 v2 v3 v4 v5 v6 : Value} {x : Int32} {y : Int32} {st : List Value} {im : IM} {rm : RM}  : ev 90 70 [v0, v1, v2, v3, v4, v5, v6] (.int y :: .int x :: st) im rm = ev 90 71 [v0, v1, v2, v3, v4, v5, v6] (.int (x + y) :: st) (im) (rm) := ev_iadd pm_m90 d90_70 rfl
theorem d90_71 : decode prog_1_method_51_code 71 = .ok (.invokestatic 253, 3) := by decide +kernel
theorem s90_71 {v0 v1 v2 v3 v4 v5 v6 : Value} {p1 : Int32} {p2 : Int32} {r3 : Int32} {r4 : Nat} {im : IM} {rm : RM}  : ev 90 71 [v0, v1, v2, v3, v4, v5, v6] [.int p2, .int p1, .int r3, .ref r4] im rm = (ev 176 0 [.int p1, .int p2] [] im rm).bind (fun r => ev 90 74 [v0, v1, v2, v3, v4, v5, v6] (r.1.toList ++ [.int r3, .ref r4]) r.2.1 r.2.2) := ev_callS pm_m90 d90_71 (by decide) l7_253 rfl pm_m176 rfl ⟨rfl, rfl⟩ rfl rfl
theorem d90_74 : decode prog_1_method_51_code 74 = .ok (.iastore, 1) := by decide +kernel
theorem s90_74 {v0 v1 v2 v3 v4 v5 v6 : Value} {a : Nat} {i : Int32} {v : Int32} {st : List Value} {im : IM} {rm : RM} (hk : kd a = 0) (hi : pm_in i (ln a) = true) : ev 90 74 [v0, v1, v2, v3, v4, v5, v6] (.int v :: .int i :: .ref a :: st) im rm = ev 90 75 [v0, pm_u, v2, v3, v4, v5, pm_u] st (pm_w2 im a i.toNatClampNeg v) (rm) := ev_iast pm_m90 d90_74 hk hi rfl
theorem d90_75 : decode prog_1_method_51_code 75 = .ok (.iinc 5 (-1), 3) := by decide +kernel
theorem s90_75 {v0 v1 v2 v3 v6 : Value} {l1 : Int32} {l2 : Int32} {st : List Value} {im : IM} {rm : RM}  : ev 90 75 [v0, v1, v2, v3, .int l1, .int l2, v6] st im rm = ev 90 78 [v0, v1, v2, v3, .int l1, .int (l2 + (-1 : Int32)), v6] st (im) (rm) := ev_iinc pm_m90 d90_75 rfl rfl rfl rfl
theorem d90_78 : decode prog_1_method_51_code 78 = .ok (.goto (-60), 3) := by decide +kernel
theorem s90_78 {v0 v1 v2 v3 v4 v5 v6 : Value}  {st : List Value} {im : IM} {rm : RM}  : ev 90 78 [v0, v1, v2, v3, v4, v5, v6] st im rm = ev 90 18 [v0, pm_u, v2, v3, v4, v5, pm_u] st (im) (rm) := ev_goto pm_m90 d90_78 rfl rfl
theorem d90_81 : decode prog_1_method_51_code 81 = .ok (.return_, 1) := by decide +kernel
theorem s90_81 {v0 v1 v2 v3 v4 v5 v6 : Value} {im : IM} {rm : RM} : ev 90 81 [v0, v1, v2, v3, v4, v5, v6] [] im rm = some (none, im, rm) := ev_return pm_m90 d90_81 rfl
theorem d91_0 : decode prog_1_method_52_code 0 = .ok (.iconst 0, 1) := by decide +kernel
theorem s91_0 {v0 v1 v2 v3 v4 : Value}  {st : List Value} {im : IM} {rm : RM}  : ev 91 0 [v0, v1, v2, v3, v4] st im rm = ev 91 1 [v0, v1, v2, v3, v4] (.int (nI 0) :: st) (im) (rm) := ev_iconst pm_m91 d91_0 rfl rfl
theorem d91_1 : decode prog_1_method_52_code 1 = .ok (.istore_n 2, 1) := by decide +kernel
theorem s91_1 {v0 v2 v3 v4 : Value} {l1 : Int32} {x2 : Int32} {st : List Value} {im : IM} {rm : RM}  : ev 91 1 [v0, .int l1, v2, v3, v4] (.int x2 :: st) im rm = ev 91 2 [v0, .int l1, .int x2, pm_u, pm_u] st (im) (rm) := ev_istore_n pm_m91 d91_1 (Nat.le_of_ble_eq_true rfl) rfl rfl
theorem d91_2 : decode prog_1_method_52_code 2 = .ok (.iload_n 2, 1) := by decide +kernel
theorem s91_2 {v0 v1 v3 v4 : Value} {l1 : Int32} {st : List Value} {im : IM} {rm : RM}  : ev 91 2 [v0, v1, .int l1, v3, v4] st im rm = ev 91 3 [v0, v1, .int l1, v3, v4] (.int l1 :: st) (im) (rm) := ev_iload_n pm_m91 d91_2 rfl rfl
theorem d91_3 : decode prog_1_method_52_code 3 = .ok (.aload_n 0, 1) := by decide +kernel
theorem s91_3 {v1 v2 v3 v4 : Value} {l1 : Nat} {st : List Value} {im : IM} {rm : RM}  : ev 91 3 [.ref l1, v1, v2, v3, v4] st im rm = ev 91 4 [.ref l1, v1, v2, v3, v4] (.ref l1 :: st) (im) (rm) := ev_aload_n pm_m91 d91_3 rfl rfl
theorem d91_4 : decode prog_1_method_52_code 4 = .ok (.getfield 55, 3) := by decide +kernel
theorem s91_4 {v0 v1 v2 v3 v4 : Value} {a : Nat} {st : List Value} {im : IM} {rm : RM} (hk : kd a = 17) : ev 91 4 [v0, v1, v2, v3, v4] (.ref a :: st) im rm = ev 91 7 [v0, v1, v2, v3, v4] (pm_ro (rm a 8) :: st) (im) (rm) := ev_getR pm_m91 d91_4 f7_55 rfl hk rfl
theorem d91_7 : decode prog_1_method_52_code 7 = .ok (.getfield 220, 3) := by decide +kernel
theorem s91_7 {v0 v1 v2 v3 v4 : Value} {a : Nat} {st : List Value} {im : IM} {rm : RM} (hk : kd a = 12) : ev 91 7 [v0, v1, v2, v3, v4] (.ref a :: st) im rm = ev 91 10 [v0, v1, v2, v3, v4] (.int (im a 0) :: st) (im) (rm) := ev_getI pm_m91 d91_7 f7_220 rfl hk rfl
theorem d91_10 : decode prog_1_method_52_code 10 = .ok (.if_icmp .ge 71, 3) := by decide +kernel
theorem s91_10 {v0 v1 v2 v3 v4 : Value} {x : Int32} {y : Int32} {st : List Value} {im : IM} {rm : RM} : ev 91 10 [v0, v1, v2, v3, v4] (.int y :: .int x :: st) im rm = if y ≤ x then ev 91 81 [pm_u, pm_u, pm_u, pm_u, pm_u] st im rm else ev 91 13 [v0, v1, v2, v3, v4] st im rm := ev_icmp_ge pm_m91 d91_10 rfl rfl rfl
theorem d91_13 : decode prog_1_method_52_code 13 = .ok (.aload_n 0, 1) := by decide +kernel
theorem s91_13 {v1 v2 v3 v4 : Value} {l1 : Nat} {st : List Value} {im : IM} {rm : RM}  : ev 91 13 [.ref l1, v1, v2, v3, v4] st im rm = ev 91 14 [.ref l1, v1, v2, v3, v4] (.ref l1 :: st) (im) (rm) := ev_aload_n pm_m91 d91_13 rfl rfl
theorem d91_14 : decode prog_1_method_52_code 14 = .ok (.getfield 55, 3) := by decide +kernel
theorem s91_14 {v0 v1 v2 v3 v4 : Value} {a : Nat} {st : List Value} {im : IM} {rm : RM} (hk : kd a = 17) : ev 91 14 [v0, v1, v2, v3, v4] (.ref a :: st) im rm = ev 91 17 [v0, v1, v2, v3, v4] (pm_ro (rm a 8) :: st) (im) (rm) := ev_getR pm_m91 d91_14 f7_55 rfl hk rfl
theorem d91_17 : decode prog_1_method_52_code 17 = .ok (.getfield 353, 3) := by decide +kernel
theorem s91_17 {v0 v1 v2 v3 v4 : Value} {a : Nat} {st : List Value} {im : IM} {rm : RM} (hk : kd a = 12) : ev 91 17 [v0, v1, v2, v3, v4] (.ref a :: st) im rm = ev 91 20 [v0, v1, v2, v3, v4] (pm_ro (rm a 1) :: st) (im) (rm) := ev_getR pm_m91 d91_17 f7_353 rfl hk rfl
theorem d91_20 : decode prog_1_method_52_code 20 = .ok (.iload_n 2, 1) := by decide +kernel
theorem s91_20 {v0 v1 v3 v4 : Value} {l1 : Int32} {st : List Value} {im : IM} {rm : RM}  : ev 91 20 [v0, v1, .int l1, v3, v4] st im rm = ev 91 21 [v0, v1, .int l1, v3, v4] (.int l1 :: st) (im) (rm) := ev_iload_n pm_m91 d91_20 rfl rfl
theorem d91_21 : decode prog_1_method_52_code 21 = .ok (.iaload, 1) := by decide +kernel
theorem s91_21 {v0 v1 v2 v3 v4 : Value} {a : Nat} {i : Int32} {st : List Value} {im : IM} {rm : RM} (hk : kd a = 0) (hi : pm_in i (ln a) = true) : ev 91 21 [v0, v1, v2, v3, v4] (.int i :: .ref a :: st) im rm = ev 91 22 [v0, v1, v2, v3, v4] (.int (im a i.toNatClampNeg) :: st) (im) (rm) := ev_iald pm_m91 d91_21 hk hi rfl
theorem d91_22 : decode prog_1_method_52_code 22 = .ok (.istore_n 3, 1) := by decide +kernel
theorem s91_22 {v0 v1 v3 v4 : Value} {l1 : Int32} {x2 : Int32} {st : List Value} {im : IM} {rm : RM}  : ev 91 22 [v0, v1, .int l1, v3, v4] (.int x2 :: st) im rm = ev 91 23 [v0, v1, .int l1, .int x2, v4] st (im) (rm) := ev_istore_n pm_m91 d91_22 (Nat.le_of_ble_eq_true rfl) rfl rfl
theorem d91_23 : decode prog_1_method_52_code 23 = .ok (.aload_n 0, 1) := by decide +kernel
theorem s91_23 {v1 v2 v3 v4 : Value} {l1 : Nat} {st : List Value} {im : IM} {rm : RM}  : ev 91 23 [.ref l1, v1, v2, v3, v4] st im rm = ev 91 24 [.ref l1, v1, v2, v3, v4] (.ref l1 :: st) (im) (rm) := ev_aload_n pm_m91 d91_23 rfl rfl
theorem d91_24 : decode prog_1_method_52_code 24 = .ok (.getfield 55, 3) := by decide +kernel
theorem s91_24 {v0 v1 v2 v3 v4 : Value} {a : Nat} {st : List Value} {im : IM} {rm : RM} (hk : kd a = 17) : ev 91 24 [v0, v1, v2, v3, v4] (.ref a :: st) im rm = ev 91 27 [v0, v1, v2, v3, v4] (pm_ro (rm a 8) :: st) (im) (rm) := ev_getR pm_m91 d91_24 f7_55 rfl hk rfl
theorem d91_27 : decode prog_1_method_52_code 27 = .ok (.getfield 356, 3) := by decide +kernel
theorem s91_27 {v0 v1 v2 v3 v4 : Value} {a : Nat} {st : List Value} {im : IM} {rm : RM} (hk : kd a = 12) : ev 91 27 [v0, v1, v2, v3, v4] (.ref a :: st) im rm = ev 91 30 [v0, v1, v2, v3, v4] (pm_ro (rm a 2) :: st) (im) (rm) := ev_getR pm_m91 d91_27 f7_356 rfl hk rfl
theorem d91_30 : decode prog_1_method_52_code 30 = .ok (.iload_n 2, 1) := by decide +kernel
theorem s91_30 {v0 v1 v3 v4 : Value} {l1 : Int32} {st : List Value} {im : IM} {rm : RM}  : ev 91 30 [v0, v1, .int l1, v3, v4] st im rm = ev 91 31 [v0, v1, .int l1, v3, v4] (.int l1 :: st) (im) (rm) := ev_iload_n pm_m91 d91_30 rfl rfl
theorem d91_31 : decode prog_1_method_52_code 31 = .ok (.iaload, 1) := by decide +kernel
theorem s91_31 {v0 v1 v2 v3 v4 : Value} {a : Nat} {i : Int32} {st : List Value} {im : IM} {rm : RM} (hk : kd a = 0) (hi : pm_in i (ln a) = true) : ev 91 31 [v0, v1, v2, v3, v4] (.int i :: .ref a :: st) im rm = ev 91 32 [v0, v1, v2, v3, v4] (.int (im a i.toNatClampNeg) :: st) (im) (rm) := ev_iald pm_m91 d91_31 hk hi rfl
theorem d91_32 : decode prog_1_method_52_code 32 = .ok (.istore 4, 2) := by decide +kernel
theorem s91_32 {v0 v1 v2 v4 : Value} {l1 : Int32} {x2 : Int32} {st : List Value} {im : IM} {rm : RM}  : ev 91 32 [v0, v1, v2, .int l1, v4] (.int x2 :: st) im rm = ev 91 34 [v0, v1, v2, .int l1, .int x2] st (im) (rm) := ev_istore pm_m91 d91_32 (Nat.le_of_ble_eq_true rfl) rfl rfl
theorem d91_34 : decode prog_1_method_52_code 34 = .ok (.aload_n 0, 1) := by decide +kernel
theorem s91_34 {v1 v2 v3 v4 : Value} {l1 : Nat} {st : List Value} {im : IM} {rm : RM}  : ev 91 34 [.ref l1, v1, v2, v3, v4] st im rm = ev 91 35 [.ref l1, v1, v2, v3, v4] (.ref l1 :: st) (im) (rm) := ev_aload_n pm_m91 d91_34 rfl rfl
theorem d91_35 : decode prog_1_method_52_code 35 = .ok (.iload_n 3, 1) := by decide +kernel
theorem s91_35 {v0 v1 v2 v4 : Value} {l1 : Int32} {st : List Value} {im : IM} {rm : RM}  : ev 91 35 [v0, v1, v2, .int l1, v4] st im rm = ev 91 36 [v0, v1, v2, .int l1, v4] (.int l1 :: st) (im) (rm) := ev_iload_n pm_m91 d91_35 rfl rfl
theorem d91_36 : decode prog_1_method_52_code 36 = .ok (.iload 4, 2) := by decide +kernel
theorem s91_36 {v0 v1 v2 v3 : Value} {l1 : Int32} {st : List Value} {im : IM} {rm : RM}  : ev 91 36 [v0, v1, v2, v3, .int l1] st im rm = ev 91 38 [v0, v1, v2, v3, .int l1] (.int l1 :: st) (im) (rm) := ev_iload pm_m91 d91_36 rfl rfl
theorem d91_38 : decode prog_1_method_52_code 38 = .ok (.invokevirtual 141, 3) := by decide +kernel
theorem s91_38 {v0 v1 v2 v3 v4 : Value} {a : Nat} {p1 : Int32} {p2 : Int32} {im : IM} {rm : RM} (hk : kd a = 17) : ev 91 38 [v0, v1, v2, v3, v4] [.int p2, .int p1, .ref a] im rm = (ev 77 0 [.ref a, .int p1, .int p2] [] im rm).bind (fun r => ev 91 41 [v0, v1, v2, v3, v4] (r.1.toList ++ []) r.2.1 r.2.2) := ev_callV pm_m91 d91_38 l7_141 rfl pm_m77 (by decide) hk rfl ⟨rfl, rfl⟩ rfl rfl
theorem d91_41 : decode prog_1_method_52_code 41 = .ok (.ifCond .ne 5, 3) := by decide +kernel
theorem s91_41 {v0 v1 v2 v3 v4 : Value} {x : Int32} {st : List Value} {im : IM} {rm : RM} : ev 91 41 [v0, v1, v2, v3, v4] (.int x :: st) im rm = if x = nI 0 then ev 91 44 [v0, v1, v2, v3, v4] st im rm else ev 91 46 [v0, v1, v2, v3, v4] st im rm := ev_if_ne (y := 0) pm_m91 d91_41 rfl rfl rfl
theorem d91_44 : decode prog_1_method_52_code 44 = .ok (.iconst 0, 1) := by decide +kernel
theorem s91_44 {v0 v1 v2 v3 v4 : Value}  {st : List Value} {im : IM} {rm : RM}  : ev 91 44 [v0, v1, v2, v3, v4] st im rm = ev 91 45 [v0, v1, v2, v3, v4] (.int (nI 0) :: st) (im) (rm) := ev_iconst pm_m91 d91_44 rfl rfl
theorem d91_45 : decode prog_1_method_52_code 45 = .ok (.ireturn, 1) := by decide +kernel
theorem s91_45 {v0 v1 v2 v3 v4 : Value} {x : Int32} {im : IM} {rm : RM} (hx : x = 0 ∨ x = 1) : ev 91 45 [v0, v1, v2, v3, v4] [.int x] im rm = some (some (.int x), im, rm) := ev_zreturn pm_m91 d91_45 rfl hx
theorem d91_46 : decode prog_1_method_52_code 46 = .ok (.aload_n 0, 1) := by decide +kernel
theorem s91_46 {v1 v2 v3 v4 : Value} {l1 : Nat} {st : List Value} {im : IM} {rm : RM}  : ev 91 46 [.ref l1, v1, v2, v3, v4] st im rm = ev 91 47 [.ref l1, v1, v2, v3, v4] (.ref l1 :: st) (im) (rm) := ev_aload_n pm_m91 d91_46 rfl rfl
theorem d91_47 : decode prog_1_method_52_code 47 = .ok (.iload_n 1, 1) := by decide +kernel
theorem s91_47 {v0 v2 v3 v4 : Value} {l1 : Int32} {st : List Value} {im : IM} {rm : RM}  : ev 91 47 [v0, .int l1, v2, v3, v4] st im rm = ev 91 48 [v0, .int l1, v2, v3, v4] (.int l1 :: st) (im) (rm) := ev_iload_n pm_m91 d91_47 rfl rfl
theorem d91_48 : decode prog_1_method_52_code 48 = .ok (.iload_n 3, 1) := by decide +kernel
theorem s91_48 {v0 v1 v2 v4 : Value} {l1 : Int32} {st : List Value} {im : IM} {rm : RM}  : ev 91 48 [v0, v1, v2, .int l1, v4] st im rm = ev 91 49 [v0, v1, v2, .int l1, v4] (.int l1 :: st) (im) (rm) := ev_iload_n pm_m91 d91_48 rfl rfl
theorem d91_49 : decode prog_1_method_52_code 49 = .ok (.invokevirtual 164, 3) := by decide +kernel
theorem s91_49 {v0 v1 v2 v3 v4 : Value} {a : Nat} {p1 : Int32} {p2 : Int32} {im : IM} {rm : RM} (hk : kd a = 17) : ev 91 49 [v0, v1, v2, v3, v4] [.int p2, .int p1, .ref a] im rm = (ev 80 0 [.ref a, .int p1, .int p2, pm_u, pm_u, pm_u, pm_u, pm_u, pm_u, pm_u, pm_u] [] im rm).bind (fun r => ev 91 52 [v0, v1, v2, v3, v4] (r.1.toList ++ []) r.2.1 r.2.2) := ev_callV pm_m91 d91_49 l7_164 rfl pm_m80 (by decide) hk rfl ⟨rfl, rfl⟩ rfl rfl
theorem d91_52 : decode prog_1_method_52_code 52 = .ok (.aload_n 0, 1) := by decide +kernel
theorem s91_52 {v1 v2 v3 v4 : Value} {l1 : Nat} {st : List Value} {im : IM} {rm : RM}  : ev 91 52 [.ref l1, v1, v2, v3, v4] st im rm = ev 91 53 [.ref l1, v1, v2, v3, v4] (.ref l1 :: st) (im) (rm) := ev_aload_n pm_m91 d91_52 rfl rfl
theorem d91_53 : decode prog_1_method_52_code 53 = .ok (.getfield 83, 3) := by decide +kernel
theorem s91_53 {v0 v1 v2 v3 v4 : Value} {a : Nat} {st : List Value} {im : IM} {rm : RM} (hk : kd a = 17) : ev 91 53 [v0, v1, v2, v3, v4] (.ref a :: st) im rm = ev 91 56 [v0, v1, v2, v3, v4] (pm_ro (rm a 13) :: st) (im) (rm) := ev_getR pm_m91 d91_53 f7_83 rfl hk rfl
theorem d91_56 : decode prog_1_method_52_code 56 = .ok (.iload 4, 2) := by decide +kernel
theorem s91_56 {v0 v1 v2 v3 : Value} {l1 : Int32} {st : List Value} {im : IM} {rm : RM}  : ev 91 56 [v0, v1, v2, v3, .int l1] st im rm = ev 91 58 [v0, v1, v2, v3, .int l1] (.int l1 :: st) (im) (rm) := ev_iload pm_m91 d91_56 rfl rfl
theorem d91_58 : decode prog_1_method_52_code 58 = .ok (.invokevirtual 359, 3) := by decide +kernel
theorem s91_58 {v0 v1 v2 v3 v4 : Value} {a : Nat} {p1 : Int32} {im : IM} {rm : RM} (hk : kd a = 13) : ev 91 58 [v0, v1, v2, v3, v4] [.int p1, .ref a] im rm = (ev 14 0 [.ref a, .int p1, pm_u, pm_u] [] im rm).bind (fun r => ev 91 61 [v0, v1, v2, v3, v4] (r.1.toList ++ []) r.2.1 r.2.2) := ev_callV pm_m91 d91_58 l7_359 rfl pm_m14 (by decide) hk rfl ⟨rfl, rfl⟩ rfl rfl
theorem d91_61 : decode prog_1_method_52_code 61 = .ok (.aload_n 0, 1) := by decide +kernel
theorem s91_61 {v1 v2 v3 v4 : Value} {l1 : Nat} {st : List Value} {im : IM} {rm : RM}  : ev 91 61 [.ref l1, v1, v2, v3, v4] st im rm = ev 91 62 [.ref l1, v1, v2, v3, v4] (.ref l1 :: st) (im) (rm) := ev_aload_n pm_m91 d91_61 rfl rfl
theorem d91_62 : decode prog_1_method_52_code 62 = .ok (.getfield 55, 3) := by decide +kernel
theorem s91_62 {v0 v1 v2 v3 v4 : Value} {a : Nat} {st : List Value} {im : IM} {rm : RM} (hk : kd a = 17) : ev 91 62 [v0, v1, v2, v3, v4] (.ref a :: st) im rm = ev 91 65 [v0, v1, v2, v3, v4] (pm_ro (rm a 8) :: st) (im) (rm) := ev_getR pm_m91 d91_62 f7_55 rfl hk rfl
theorem d91_65 : decode prog_1_method_52_code 65 = .ok (.getfield 362, 3) := by decide +kernel
theorem s91_65 {v0 v1 v2 v3 v4 : Value} {a : Nat} {st : List Value} {im : IM} {rm : RM} (hk : kd a = 12) : ev 91 65 [v0, v1, v2, v3, v4] (.ref a :: st) im rm = ev 91 68 [v0, v1, v2, v3, v4] (pm_ro (rm a 3) :: st) (im) (rm) := ev_getR pm_m91 d91_65 f7_362 rfl hk rfl
theorem d91_68 : decode prog_1_method_52_code 68 = .ok (.iload_n 2, 1) := by decide +kernel
theorem s91_68 {v0 v1 v3 v4 : Value} {l1 : Int32} {st : List Value} {im : IM} {rm : RM}  : ev 91 68 [v0, v1, .int l1, v3, v4] st im rm = ev 91 69 [v0, v1, .int l1, v3, v4] (.int l1 :: st) (im) (rm) := ev_iload_n pm_m91 d91_68 rfl rfl
theorem d91_69 : decode prog_1_method_52_code 69 = .ok (.iaload, 1) := by decide +kernel
theorem s91_69 {v0 v1 v2 v3 v4 : Value} {a : Nat} {i : Int32} {st : List Value} {im : IM} {rm : RM} (hk : kd a = 0) (hi : pm_in i (ln a) = true) : ev 91 69 [v0, v1, v2, v3, v4] (.int i :: .ref a :: st) im rm = ev 91 70 [v0, v1, v2, v3, v4] (.int (im a i.toNatClampNeg) :: st) (im) (rm) := ev_iald pm_m91 d91_69 hk hi rfl
theorem d91_70 : decode prog_1_method_52_code 70 = .ok (.if_icmp .eq 5, 3) := by decide +kernel
theorem s91_70 {v0 v1 v2 v3 v4 : Value} {x : Int32} {y : Int32} {st : List Value} {im : IM} {rm : RM} : ev 91 70 [v0, v1, v2, v3, v4] (.int y :: .int x :: st) im rm = if x = y then ev 91 75 [v0, v1, v2, pm_u, pm_u] st im rm else ev 91 73 [v0, v1, v2, v3, v4] st im rm := ev_icmp_eq pm_m91 d91_70 rfl rfl rfl
theorem d91_73 : decode prog_1_method_52_code 73 = .ok (.iconst 0, 1) := by decide +kernel
theorem s91_73 {v0 v1 v2 v3 v4 : Value}  {st : List Value} {im : IM} {rm : RM}  : ev 91 73 [v0, v1, v2, v3, v4] st im rm = ev 91 74 [v0, v1, v2, v3, v4] (.int (nI 0) :: st) (im) (rm) := ev_iconst pm_m91 d91_73 rfl rfl
theorem d91_74 : decode prog_1_method_52_code 74 = .ok (.ireturn, 1) := by decide +kernel
theorem s91_74 {v0 v1 v2 v3 v4 : Value} {x : Int32} {im : IM} {rm : RM} (hx : x = 0 ∨ x = 1) : ev 91 74 [v0, v1, v2, v3, v4] [.int x] im rm = some (some (.int x), im, rm) := ev_zreturn pm_m91 d91_74 rfl hx
theorem d91_75 : decode prog_1_method_52_code 75 = .ok (.iinc 2 1, 3) := by decide +kernel
theorem s91_75 {v0 v3 v4 : Value} {l1 : Int32} {l2 : Int32} {st : List Value} {im : IM} {rm : RM}  : ev 91 75 [v0, .int l1, .int l2, v3, v4] st im rm = ev 91 78 [v0, .int l1, .int (l2 + nI 1), v3, v4] st (im) (rm) := ev_iinc pm_m91 d91_75 rfl rfl rfl rfl
theorem d91_78 : decode prog_1_method_52_code 78 = .ok (.goto (-76), 3) := by decide +kernel
theorem s91_78 {v0 v1 v2 v3 v4 : Value}  {st : List Value} {im : IM} {rm : RM}  : ev 91 78 [v0, v1, v2, v3, v4] st im rm = ev 91 2 [v0, v1, v2, pm_u, pm_u] st (im) (rm) := ev_goto pm_m91 d91_78 rfl rfl
theorem d91_81 : decode prog_1_method_52_code 81 = .ok (.iconst 1, 1) := by decide +kernel
theorem s91_81 {v0 v1 v2 v3 v4 : Value}  {st : List Value} {im : IM} {rm : RM}  : ev 91 81 [v0, v1, v2, v3, v4] st im rm = ev 91 82 [v0, v1, v2, v3, v4] (.int (nI 1) :: st) (im) (rm) := ev_iconst pm_m91 d91_81 rfl rfl
theorem d91_82 : decode prog_1_method_52_code 82 = .ok (.ireturn, 1) := by decide +kernel
theorem s91_82 {v0 v1 v2 v3 v4 : Value} {x : Int32} {im : IM} {rm : RM} (hx : x = 0 ∨ x = 1) : ev 91 82 [v0, v1, v2, v3, v4] [.int x] im rm = some (some (.int x), im, rm) := ev_zreturn pm_m91 d91_82 rfl hx
theorem d92_0 : decode prog_1_method_53_code 0 = .ok (.iconst 0, 1) := by decide +kernel
theorem s92_0 {v0 v1 v2 v3 v4 v5 v6 : Value}  {st : List Value} {im : IM} {rm : RM}  : ev 92 0 [v0, v1, v2, v3, v4, v5, v6] st im rm = ev 92 1 [v0, v1, v2, v3, v4, v5, v6] (.int (nI 0) :: st) (im) (rm) := ev_iconst pm_m92 d92_0 rfl rfl
theorem d92_1 : decode prog_1_method_53_code 1 = .ok (.istore_n 3, 1) := by decide +kernel
theorem s92_1 {v0 v1 v3 v4 v5 v6 : Value} {l1 : Int32} {x2 : Int32} {st : List Value} {im : IM} {rm : RM}  : ev 92 1 [v0, v1, .int l1, v3, v4, v5, v6] (.int x2 :: st) im rm = ev 92 2 [v0, v1, .int l1, .int x2, v4, v5, v6] st (im) (rm) := ev_istore_n pm_m92 d92_1 (Nat.le_of_ble_eq_true rfl) rfl rfl
theorem d92_2 : decode prog_1_method_53_code 2 = .ok (.iconst 0, 1) := by decide +kernel
theorem s92_2 {v0 v1 v2 v3 v4 v5 v6 : Value}  {st : List Value} {im : IM} {rm : RM}  : ev 92 2 [v0, v1, v2, v3, v4, v5, v6] st im rm = ev 92 3 [v0, v1, v2, v3, v4, v5, v6] (.int (nI 0) :: st) (im) (rm) := ev_iconst pm_m92 d92_2 rfl rfl
theorem d92_3 : decode prog_1_method_53_code 3 = .ok (.istore 4, 2) := by decide +kernel
theorem s92_3 {v0 v1 v2 v4 v5 v6 : Value} {l1 : Int32} {x2 : Int32} {st : List Value} {im : IM} {rm : RM}  : ev 92 3 [v0, v1, v2, .int l1, v4, v5, v6] (.int x2 :: st) im rm = ev 92 5 [v0, v1, v2, .int l1, .int x2, pm_u, pm_u] st (im) (rm) := ev_istore pm_m92 d92_3 (Nat.le_of_ble_eq_true rfl) rfl rfl
theorem d92_5 : decode prog_1_method_53_code 5 = .ok (.iload 4, 2) := by decide +kernel
theorem s92_5 {v0 v1 v2 v3 v5 v6 : Value} {l1 : Int32} {st : List Value} {im : IM} {rm : RM}  : ev 92 5 [v0, v1, v2, v3, .int l1, v5, v6] st im rm = ev 92 7 [v0, v1, v2, v3, .int l1, v5, v6] (.int l1 :: st) (im) (rm) := ev_iload pm_m92 d92_5 rfl rfl
theorem d92_7 : decode prog_1_method_53_code 7 = .ok (.iconst 4, 1) := by decide +kernel
theorem s92_7 {v0 v1 v2 v3 v4 v5 v6 : Value}  {st : List Value} {im : IM} {rm : RM}  : ev 92 7 [v0, v1, v2, v3, v4, v5, v6] st im rm = ev 92 8 [v0, v1, v2, v3, v4, v5, v6] (.int (nI 4) :: st) (im) (rm) := ev_iconst pm_m92 d92_7 rfl rfl
theorem d92_8 : decode prog_1_method_53_code 8 = .ok (.if_icmp .ge 84, 3) := by decide +kernel
theorem s92_8 {v0 v1 v2 v3 v4 v5 v6 : Value} {x : Int32} {y : Int32} {st : List Value} {im : IM} {rm : RM} : ev 92 8 [v0, v1, v2, v3, v4, v5, v6] (.int y :: .int x :: st) im rm = if y ≤ x then ev 92 92 [pm_u, pm_u, pm_u, v3, pm_u, pm_u, pm_u] st im rm else ev 92 11 [v0, v1, v2, v3, v4, v5, v6] st im rm := ev_icmp_ge pm_m92 d92_8 rfl rfl rfl
theorem d92_11 : decode prog_1_method_53_code 11 = .ok (.iload_n 2, 1) := by decide +kernel
theorem s92_11 {v0 v1 v3 v4 v5 v6 : Value} {l1 : Int32} {st : List Value} {im : IM} {rm : RM}  : ev 92 11 [v0, v1, .int l1, v3, v4, v5, v6] st im rm = ev 92 12 [v0, v1, .int l1, v3, v4, v5, v6] (.int l1 :: st) (im) (rm) := ev_iload_n pm_m92 d92_11 rfl rfl
theorem d92_12 : decode prog_1_method_53_code 12 = .ok (.iload 4, 2) := by decide +kernel
theorem s92_12 {v0 v1 v2 v3 v5 v6 : Value} {l1 : Int32} {st : List Value} {im : IM} {rm : RM}  : ev 92 12 [v0, v1, v2, v3, .int l1, v5, v6] st im rm = ev 92 14 [v0, v1, v2, v3, .int l1, v5, v6] (.int l1 :: st) (im) (rm) := ev_iload pm_m92 d92_12 rfl rfl
theorem d92_14 : decode prog_1_method_53_code 14 = .ok (.ishr, 1) := by decide +kernel
theorem s92_14 {v0 v1 v2 v3 v4 v5 v6 : Value} {x : Int32} {y : Int32} {st : List Value} {im : IM} {rm : RM}  : ev 92 14 [v0, v1, v2, v3, v4, v5, v6] (.int y :: .int x :: st) im rm = ev 92 15 [v0, v1, v2, v3, v4, v5, v6] (.int (x >>> (y &&& 31)) :: st) (im) (rm) := ev_ishr pm_m92 d92_14 rfl
theorem d92_15 : decode prog_1_method_53_code 15 = .ok (.iconst 1, 1) := by decide +kernel
theorem s92_15 {v0 v1 v2 v3 v4 v5 v6 : Value}  {st : List Value} {im : IM} {rm : RM}  : ev 92 15 [v0, v1, v2, v3, v4, v5, v6] st im rm = ev 92 16 [v0, v1, v2, v3, v4, v5, v6] (.int (nI 1) :: st) (im) (rm) := ev_iconst pm_m92 d92_15 rfl rfl
theorem d92_16 : decode prog_1_method_53_code 16 = .ok (.iand, 1) := by decide +kernel
theorem s92_16 {v0 v1 v2 v3 v4 v5 v6 : Value} {x : Int32} {y : Int32} {st : List Value} {im : IM} {rm : RM}  : ev 92 16 [v0, v1, v2, v3, v4, v5, v6] (.int y :: .int x :: st) im rm = ev 92 17 [v0, v1, v2, v3, v4, v5, v6] (.int (x &&& y) :: st) (im) (rm) := ev_iand pm_m92 d92_16 rfl
theorem d92_17 : decode prog_1_method_53_code 17 = .ok (.iconst 1, 1) := by decide +kernel
theorem s92_17 {v0 v1 v2 v3 v4 v5 v6 : Value}  {st : List Value} {im : IM} {rm : RM}  : ev 92 17 [v0, v1, v2, v3, v4, v5, v6] st im rm = ev 92 18 [v0, v1, v2, v3, v4, v5, v6] (.int (nI 1) :: st) (im) (rm) := ev_iconst pm_m92 d92_17 rfl rfl
theorem d92_18 : decode prog_1_method_53_code 18 = .ok (.if_icmp .ne 7, 3) := by decide +kernel
theorem s92_18 {v0 v1 v2 v3 v4 v5 v6 : Value} {x : Int32} {y : Int32} {st : List Value} {im : IM} {rm : RM} : ev 92 18 [v0, v1, v2, v3, v4, v5, v6] (.int y :: .int x :: st) im rm = if x = y then ev 92 21 [v0, v1, v2, v3, v4, v5, v6] st im rm else ev 92 25 [v0, v1, v2, v3, v4, pm_u, pm_u] st im rm := ev_icmp_ne pm_m92 d92_18 rfl rfl rfl
theorem d92_21 : decode prog_1_method_53_code 21 = .ok (.iconst 1, 1) := by decide +kernel
theorem s92_21 {v0 v1 v2 v3 v4 v5 v6 : Value}  {st : List Value} {im : IM} {rm : RM}  : ev 92 21 [v0, v1, v2, v3, v4, v5, v6] st im rm = ev 92 22 [v0, v1, v2, v3, v4, v5, v6] (.int (nI 1) :: st) (im) (rm) := ev_iconst pm_m92 d92_21 rfl rfl
theorem d92_22 : decode prog_1_method_53_code 22 = .ok (.goto 4, 3) := by decide +kernel
theorem s92_22 {v0 v1 v2 v3 v4 v5 v6 : Value}  {st : List Value} {im : IM} {rm : RM}  : ev 92 22 [v0, v1, v2, v3, v4, v5, v6] st im rm = ev 92 26 [v0, v1, v2, v3, v4, pm_u, pm_u] st (im) (rm) := ev_goto pm_m92 d92_22 rfl rfl
theorem d92_25 : decode prog_1_method_53_code 25 = .ok (.iconst 0, 1) := by decide +kernel
theorem s92_25 {v0 v1 v2 v3 v4 v5 v6 : Value}  {st : List Value} {im : IM} {rm : RM}  : ev 92 25 [v0, v1, v2, v3, v4, v5, v6] st im rm = ev 92 26 [v0, v1, v2, v3, v4, pm_u, pm_u] (.int (nI 0) :: st) (im) (rm) := ev_iconst pm_m92 d92_25 rfl rfl
theorem d92_26 : decode prog_1_method_53_code 26 = .ok (.istore 5, 2) := by decide +kernel
theorem s92_26 {v0 v1 v2 v3 v5 v6 : Value} {l1 : Int32} {x2 : Int32} {st : List Value} {im : IM} {rm : RM}  : ev 92 26 [v0, v1, v2, v3, .int l1, v5, v6] (.int x2 :: st) im rm = ev 92 28 [v0, v1, v2, v3, .int l1, .int x2, v6] st (im) (rm) := ev_istore pm_m92 d92_26 (Nat.le_of_ble_eq_true rfl) rfl rfl
theorem d92_28 : decode prog_1_method_53_code 28 = .ok (.iconst 0, 1) := by decide +kernel
theorem s92_28 {v0 v1 v2 v3 v4 v5 v6 : Value}  {st : List Value} {im : IM} {rm : RM}  : ev 92 28 [v0, v1, v2, v3, v4, v5, v6] st im rm = ev 92 29 [v0, v1, v2, v3, v4, v5, v6] (.int (nI 0) :: st) (im) (rm) := ev_iconst pm_m92 d92_28 rfl rfl
theorem d92_29 : decode prog_1_method_53_code 29 = .ok (.istore 6, 2) := by decide +kernel
theorem s92_29 {v0 v1 v2 v3 v4 v6 : Value} {l1 : Int32} {x2 : Int32} {st : List Value} {im : IM} {rm : RM}  : ev 92 29 [v0, v1, v2, v3, v4, .int l1, v6] (.int x2 :: st) im rm = ev 92 31 [v0, v1, v2, v3, v4, .int l1, .int x2] st (im) (rm) := ev_istore pm_m92 d92_29 (Nat.le_of_ble_eq_true rfl) rfl rfl
theorem d92_31 : decode prog_1_method_53_code 31 = .ok (.iload 6, 2) := by decide +kernel
theorem s92_31 {v0 v1 v2 v3 v4 v5 : Value} {l1 : Int32} {st : List Value} {im : IM} {rm : RM}  : ev 92 31 [v0, v1, v2, v3, v4, v5, .int l1] st im rm = ev 92 33 [v0, v1, v2, v3, v4, v5, .int l1] (.int l1 :: st) (im) (rm) := ev_iload pm_m92 d92_31 rfl rfl
theorem d92_33 : decode prog_1_method_53_code 33 = .ok (.iload 4, 2) := by decide +kernel
theorem s92_33 {v0 v1 v2 v3 v5 v6 : Value} {l1 : Int32} {st : List Value} {im : IM} {rm : RM}  : ev 92 33 [v0, v1, v2, v3, .int l1, v5, v6] st im rm = ev 92 35 [v0, v1, v2, v3, .int l1, v5, v6] (.int l1 :: st) (im) (rm) := ev_iload pm_m92 d92_33 rfl rfl
theorem d92_35 : decode prog_1_method_53_code 35 = .ok (.if_icmp .ge 43, 3) := by decide +kernel
theorem s92_35 {v0 v1 v2 v3 v4 v5 v6 : Value} {x : Int32} {y : Int32} {st : List Value} {im : IM} {rm : RM} : ev 92 35 [v0, v1, v2, v3, v4, v5, v6] (.int y :: .int x :: st) im rm = if y ≤ x then ev 92 78 [v0, v1, v2, v3, v4, v5, pm_u] st im rm else ev 92 38 [v0, v1, v2, v3, v4, v5, v6] st im rm := ev_icmp_ge pm_m92 d92_35 rfl rfl rfl
theorem d92_38 : decode prog_1_method_53_code 38 = .ok (.iload_n 2, 1) := by decide +kernel
theorem s92_38 {v0 v1 v3 v4 v5 v6 : Value} {l1 : Int32} {st : List Value} {im : IM} {rm : RM}  : ev 92 38 [v0, v1, .int l1, v3, v4, v5, v6] st im rm = ev 92 39 [v0, v1, .int l1, v3, v4, v5, v6] (.int l1 :: st) (im) (rm) := ev_iload_n pm_m92 d92_38 rfl rfl
theorem d92_39 : decode prog_1_method_53_code 39 = .ok (.iload 6, 2) := by decide +kernel
theorem s92_39 {v0 v1 v2 v3 v4 v5 : Value} {l1 : Int32} {st : List Value} {im : IM} {rm : RM}  : ev 92 39 [v0, v1, v2, v3, v4, v5, .int l1] st im rm = ev 92 41 [v0, v1, v2, v3, v4, v5, .int l1] (.int l1 :: st) (im) (rm) := ev_iload pm_m92 d92_39 rfl rfl
theorem d92_41 : decode prog_1_method_53_code 41 = .ok (.ishr, 1) := by decide +kernel
theorem s92_41 {v0 v1 v2 v3 v4 v5 v6 : Value} {x : Int32} {y : Int32} {st : List Value} {im : IM} {rm : RM}  : ev 92 41 [v0, v1, v2, v3, v4, v5, v6] (.int y :: .int x :: st) im rm = ev 92 42 [v0, v1, v2, v3, v4, v5, v6] (.int (x >>> (y &&& 31)) :: st) (im) (rm) := ev_ishr pm_m92 d92_41 rfl
theorem d92_42 : decode prog_1_method_53_code 42 = .ok (.iconst 1, 1) := by decide +kernel
theorem s92_42 {v0 v1 v2 v3 v4 v5 v6 : Value}  {st : List Value} {im : IM} {rm : RM}  : ev 92 42 [v0, v1, v2, v3, v4, v5, v6] st im rm = ev 92 43 [v0, v1, v2, v3, v4, v5, v6] (.int (nI 1) :: st) (im) (rm) := ev_iconst pm_m92 d92_42 rfl rfl
theorem d92_43 : decode prog_1_method_53_code 43 = .ok (.iand, 1) := by decide +kernel
theorem s92_43 {v0 v1 v2 v3 v4 v5 v6 : Value} {x : Int32} {y : Int32} {st : List Value} {im : IM} {rm : RM}  : ev 92 43 [v0, v1, v2, v3, v4, v5, v6] (.int y :: .int x :: st) im rm = ev 92 44 [v0, v1, v2, v3, v4, v5, v6] (.int (x &&& y) :: st) (im) (rm) := ev_iand pm_m92 d92_43 rfl
theorem d92_44 : decode prog_1_method_53_code 44 = .ok (.iconst 1, 1) := by decide +kernel
theorem s92_44 {v0 v1 v2 v3 v4 v5 v6 : Value}  {st : List Value} {im : IM} {rm : RM}  : ev 92 44 [v0, v1, v2, v3, v4, v5, v6] st im rm = ev 92 45 [v0, v1, v2, v3, v4, v5, v6] (.int (nI 1) :: st) (im) (rm) := ev_iconst pm_m92 d92_44 rfl rfl
theorem d92_45 : decode prog_1_method_53_code 45 = .ok (.if_icmp .ne 27, 3) := by decide +kernel
theorem s92_45 {v0 v1 v2 v3 v4 v5 v6 : Value} {x : Int32} {y : Int32} {st : List Value} {im : IM} {rm : RM} : ev 92 45 [v0, v1, v2, v3, v4, v5, v6] (.int y :: .int x :: st) im rm = if x = y then ev 92 48 [v0, v1, v2, v3, v4, v5, v6] st im rm else ev 92 72 [v0, v1, v2, v3, v4, v5, v6] st im rm := ev_icmp_ne pm_m92 d92_45 rfl rfl rfl
theorem d92_48 : decode prog_1_method_53_code 48 = .ok (.aload_n 0, 1) := by decide +kernel
theorem s92_48 {v1 v2 v3 v4 v5 v6 : Value} {l1 : Nat} {st : List Value} {im : IM} {rm : RM}  : ev 92 48 [.ref l1, v1, v2, v3, v4, v5, v6] st im rm = ev 92 49 [.ref l1, v1, v2, v3, v4, v5, v6] (.ref l1 :: st) (im) (rm) := ev_aload_n pm_m92 d92_48 rfl rfl
theorem d92_49 : decode prog_1_method_53_code 49 = .ok (.getfield 90, 3) := by decide +kernel
theorem s92_49 {v0 v1 v2 v3 v4 v5 v6 : Value} {a : Nat} {st : List Value} {im : IM} {rm : RM} (hk : kd a = 17) : ev 92 49 [v0, v1, v2, v3, v4, v5, v6] (.ref a :: st) im rm = ev 92 52 [v0, v1, v2, v3, v4, v5, v6] (pm_ro (rm a 15) :: st) (im) (rm) := ev_getR pm_m92 d92_49 f7_90 rfl hk rfl
theorem d92_52 : decode prog_1_method_53_code 52 = .ok (.iload 6, 2) := by decide +kernel
theorem s92_52 {v0 v1 v2 v3 v4 v5 : Value} {l1 : Int32} {st : List Value} {im : IM} {rm : RM}  : ev 92 52 [v0, v1, v2, v3, v4, v5, .int l1] st im rm = ev 92 54 [v0, v1, v2, v3, v4, v5, .int l1] (.int l1 :: st) (im) (rm) := ev_iload pm_m92 d92_52 rfl rfl
theorem d92_54 : decode prog_1_method_53_code 54 = .ok (.aaload, 1) := by decide +kernel
theorem s92_54 {v0 v1 v2 v3 v4 v5 v6 : Value} {a : Nat} {i : Int32} {st : List Value} {im : IM} {rm : RM} (hk : 2 ≤ kd a ∧ kd a ≤ 5) (hi : pm_in i (ln a) = true) : ev 92 54 [v0, v1, v2, v3, v4, v5, v6] (.int i :: .ref a :: st) im rm = ev 92 55 [v0, v1, v2, v3, v4, v5, v6] (pm_ro (rm a i.toNatClampNeg) :: st) (im) (rm) := ev_aald pm_m92 d92_54 hk hi rfl
theorem d92_55 : decode prog_1_method_53_code 55 = .ok (.iload_n 1, 1) := by decide +kernel
theorem s92_55 {v0 v2 v3 v4 v5 v6 : Value} {l1 : Int32} {st : List Value} {im : IM} {rm : RM}  : ev 92 55 [v0, .int l1, v2, v3, v4, v5, v6] st im rm = ev 92 56 [v0, .int l1, v2, v3, v4, v5, v6] (.int l1 :: st) (im) (rm) := ev_iload_n pm_m92 d92_55 rfl rfl
theorem d92_56 : decode prog_1_method_53_code 56 = .ok (.iaload, 1) := by decide +kernel
theorem s92_56 {v0 v1 v2 v3 v4 v5 v6 : Value} {a : Nat} {i : Int32} {st : List Value} {im : IM} {rm : RM} (hk : kd a = 0) (hi : pm_in i (ln a) = true) : ev 92 56 [v0, v1, v2, v3, v4, v5, v6] (.int i :: .ref a :: st) im rm = ev 92 57 [v0, v1, v2, v3, v4, v5, v6] (.int (im a i.toNatClampNeg) :: st) (im) (rm) := ev_iald pm_m92 d92_56 hk hi rfl
theorem d92_57 : decode prog_1_method_53_code 57 = .ok (.aload_n 0, 1) := by decide +kernel
theorem s92_57 {v1 v2 v3 v4 v5 v6 : Value} {l1 : Nat} {st : List Value} {im : IM} {rm : RM}  : ev 92 57 [.ref l1, v1, v2, v3, v4, v5, v6] st im rm = ev 92 58 [.ref l1, v1, v2, v3, v4, v5, v6] (.ref l1 :: st) (im) (rm) := ev_aload_n pm_m92 d92_57 rfl rfl
theorem d92_58 : decode prog_1_method_53_code 58 = .ok (.getfield 90, 3) := by decide +kernel
theorem s92_58 {v0 v1 v2 v3 v4 v5 v6 : Value} {a : Nat} {st : List Value} {im : IM} {rm : RM} (hk : kd a = 17) : ev 92 58 [v0, v1, v2, v3, v4, v5, v6] (.ref a :: st) im rm = ev 92 61 [v0, v1, v2, v3, v4, v5, v6] (pm_ro (rm a 15) :: st) (im) (rm) := ev_getR pm_m92 d92_58 f7_90 rfl hk rfl
theorem d92_61 : decode prog_1_method_53_code 61 = .ok (.iload 4, 2) := by decide +kernel
theorem s92_61 {v0 v1 v2 v3 v5 v6 : Value} {l1 : Int32} {st : List Value} {im : IM} {rm : RM}  : ev 92 61 [v0, v1, v2, v3, .int l1, v5, v6] st im rm = ev 92 63 [v0, v1, v2, v3, .int l1, v5, v6] (.int l1 :: st) (im) (rm) := ev_iload pm_m92 d92_61 rfl rfl
theorem d92_63 : decode prog_1_method_53_code 63 = .ok (.aaload, 1) := by decide +kernel
theorem s92_63 {v0 v1 v2 v3 v4 v5 v6 : Value} {a : Nat} {i : Int32} {st : List Value} {im : IM} {rm : RM} (hk : 2 ≤ kd a ∧ kd a ≤ 5) (hi : pm_in i (ln a) = true) : ev 92 63 [v0, v1, v2, v3, v4, v5, v6] (.int i :: .ref a :: st) im rm = ev 92 64 [v0, v1, v2, v3, v4, v5, v6] (pm_ro (rm a i.toNatClampNeg) :: st) (im) (rm) := ev_aald pm_m92 d92_63 hk hi rfl
theorem d92_64 : decode prog_1_method_53_code 64 = .ok (.iload_n 1, 1) := by decide +kernel
theorem s92_64 {v0 v2 v3 v4 v5 v6 : Value} {l1 : Int32} {st : List Value} {im : IM} {rm : RM}  : ev 92 64 [v0, .int l1, v2, v3, v4, v5, v6] st im rm = ev 92 65 [v0, .int l1, v2, v3, v4, v5, v6] (.int l1 :: st) (im) (rm) := ev_iload_n pm_m92 d92_64 rfl rfl
theorem d92_65 : decode prog_1_method_53_code 65 = .ok (.iaload, 1) := by decide +kernel
theorem s92_65 {v0 v1 v2 v3 v4 v5 v6 : Value} {a : Nat} {i : Int32} {st : List Value} {im : IM} {rm : RM} (hk : kd a = 0) (hi : pm_in i (ln a) = true) : ev 92 65 [v0, v1, v2, v3, v4, v5, v6] (.int i :: .ref a :: st) im rm = ev 92 66 [v0, v1, v2, v3, v4, v5, v6] (.int (im a i.toNatClampNeg) :: st) (im) (rm) := ev_iald pm_m92 d92_65 hk hi rfl
theorem d92_66 : decode prog_1_method_53_code 66 = .ok (.if_icmp .ne 6, 3) := by decide +kernel
theorem s92_66 {v0 v1 v2 v3 v4 v5 v6 : Value} {x : Int32} {y : Int32} {st : List Value} {im : IM} {rm : RM} : ev 92 66 [v0, v1, v2, v3, v4, v5, v6] (.int y :: .int x :: st) im rm = if x = y then ev 92 69 [v0, v1, v2, v3, v4, v5, v6] st im rm else ev 92 72 [v0, v1, v2, v3, v4, v5, v6] st im rm := ev_icmp_ne pm_m92 d92_66 rfl rfl rfl
theorem d92_69 : decode prog_1_method_53_code 69 = .ok (.iconst 0, 1) := by decide +kernel
theorem s92_69 {v0 v1 v2 v3 v4 v5 v6 : Value}  {st : List Value} {im : IM} {rm : RM}  : ev 92 69 [v0, v1, v2, v3, v4, v5, v6] st im rm = ev 92 70 [v0, v1, v2, v3, v4, v5, v6] (.int (nI 0) :: st) (im) (rm) := ev_iconst pm_m92 d92_69 rfl rfl
theorem d92_70 : decode prog_1_method_53_code 70 = .ok (.istore 5, 2) := by decide +kernel
theorem s92_70 {v0 v1 v2 v3 v5 v6 : Value} {l1 : Int32} {x2 : Int32} {st : List Value} {im : IM} {rm : RM}  : ev 92 70 [v0, v1, v2, v3, .int l1, v5, v6] (.int x2 :: st) im rm = ev 92 72 [v0, v1, v2, v3, .int l1, .int x2, v6] st (im) (rm) := ev_istore pm_m92 d92_70 (Nat.le_of_ble_eq_true rfl) rfl rfl
theorem d92_72 : decode prog_1_method_53_code 72 = .ok (.iinc 6 1, 3) := by decide +kernel
theorem s92_72 {v0 v1 v2 v3 v4 : Value} {l1 : Int32} {l2 : Int32} {st : List Value} {im : IM} {rm : RM}  : ev 92 72 [v0, v1, v2, v3, v4, .int l1, .int l2] st im rm = ev 92 75 [v0, v1, v2, v3, v4, .int l1, .int (l2 + nI 1)] st (im) (rm) := ev_iinc pm_m92 d92_72 rfl rfl rfl rfl
theorem d92_75 : decode prog_1_method_53_code 75 = .ok (.goto (-44), 3) := by decide +kernel
theorem s92_75 {v0 v1 v2 v3 v4 v5 v6 : Value}  {st : List Value} {im : IM} {rm : RM}  : ev 92 75 [v0, v1, v2, v3, v4, v5, v6] st im rm = ev 92 31 [v0, v1, v2, v3, v4, v5, v6] st (im) (rm) := ev_goto pm_m92 d92_75 rfl rfl
theorem d92_78 : decode prog_1_method_53_code 78 = .ok (.iload 5, 2) := by decide +kernel
theorem s92_78 {v0 v1 v2 v3 v4 v6 : Value} {l1 : Int32} {st : List Value} {im : IM} {rm : RM}  : ev 92 78 [v0, v1, v2, v3, v4, .int l1, v6] st im rm = ev 92 80 [v0, v1, v2, v3, v4, .int l1, v6] (.int l1 :: st) (im) (rm) := ev_iload pm_m92 d92_78 rfl rfl
theorem d92_80 : decode prog_1_method_53_code 80 = .ok (.ifCond .eq 6, 3) := by decide +kernel
theorem s92_80 {v0 v1 v2 v3 v4 v5 v6 : Value} {x : Int32} {st : List Value} {im : IM} {rm : RM} : ev 92 80 [v0, v1, v2, v3, v4, v5, v6] (.int x :: st) im rm = if x = nI 0 then ev 92 86 [v0, v1, v2, v3, v4, pm_u, pm_u] st im rm else ev 92 83 [v0, v1, v2, v3, v4, v5, v6] st im rm := ev_if_eq (y := 0) pm_m92 d92_80 rfl rfl rfl
theorem d92_83 : decode prog_1_method_53_code 83 = .ok (.iinc 3 1, 3) := by decide +kernel
theorem s92_83 {v0 v1 v4 v5 v6 : Value} {l1 : Int32} {l2 : Int32} {st : List Value} {im : IM} {rm : RM}  : ev 92 83 [v0, v1, .int l1, .int l2, v4, v5, v6] st im rm = ev 92 86 [v0, v1, .int l1, .int (l2 + nI 1), v4, pm_u, pm_u] st (im) (rm) := ev_iinc pm_m92 d92_83 rfl rfl rfl rfl
theorem d92_86 : decode prog_1_method_53_code 86 = .ok (.iinc 4 1, 3) := by decide +kernel
theorem s92_86 {v0 v1 v2 v5 v6 : Value} {l1 : Int32} {l2 : Int32} {st : List Value} {im : IM} {rm : RM}  : ev 92 86 [v0, v1, v2, .int l1, .int l2, v5, v6] st im rm = ev 92 89 [v0, v1, v2, .int l1, .int (l2 + nI 1), v5, v6] st (im) (rm) := ev_iinc pm_m92 d92_86 rfl rfl rfl rfl
theorem d92_89 : decode prog_1_method_53_code 89 = .ok (.goto (-84), 3) := by decide +kernel
theorem s92_89 {v0 v1 v2 v3 v4 v5 v6 : Value}  {st : List Value} {im : IM} {rm : RM}  : ev 92 89 [v0, v1, v2, v3, v4, v5, v6] st im rm = ev 92 5 [v0, v1, v2, v3, v4, pm_u, pm_u] st (im) (rm) := ev_goto pm_m92 d92_89 rfl rfl
theorem d92_92 : decode prog_1_method_53_code 92 = .ok (.iload_n 3, 1) := by decide +kernel
theorem s92_92 {v0 v1 v2 v4 v5 v6 : Value} {l1 : Int32} {st : List Value} {im : IM} {rm : RM}  : ev 92 92 [v0, v1, v2, .int l1, v4, v5, v6] st im rm = ev 92 93 [v0, v1, v2, .int l1, v4, v5, v6] (.int l1 :: st) (im) (rm) := ev_iload_n pm_m92 d92_92 rfl rfl
theorem d92_93 : decode prog_1_method_53_code 93 = .ok (.ireturn, 1) := by decide +kernel
theorem s92_93 {v0 v1 v2 v3 v4 v5 v6 : Value} {x : Int32} {im : IM} {rm : RM} : ev 92 93 [v0, v1, v2, v3, v4, v5, v6] [.int x] im rm = some (some (.int x), im, rm) := ev_ireturn pm_m92 d92_93 rfl
theorem d93_0 : decode prog_1_method_54_code 0 = .ok (.aload_n 0, 1) := by decide +kernel
theorem s93_0 {v1 v2 v3 v4 v5 v6 v7 v8 v9 : Value} {l1 : Nat} {st : List Value} {im : IM} {rm : RM}  : ev 93 0 [.ref l1, v1, v2, v3, v4, v5, v6, v7, v8, v9] st im rm = ev 93 1 [.ref l1, v1, v2, v3, v4, v5, v6, v7, v8, v9] (.ref l1 :: st) (im) (rm) := ev_aload_n pm_m93 d93_0 rfl rfl
theorem d93_1 : decode prog_1_method_54_code 1 = .ok (.getfield 23, 3) := by decide +kernel
theorem s93_1 {v0 v1 v2 v3 v4 v5 v6 v7 v8 v9 : Value} {a : Nat} {st : List Value} {im : IM} {rm : RM} (hk : kd a = 17) : ev 93 1 [v0, v1, v2, v3, v4, v5, v6, v7, v8, v9] (.ref a :: st) im rm = ev 93 4 [v0, v1, v2, v3, v4, v5, v6, v7, v8, v9] (pm_ro (rm a 2) :: st) (im) (rm) := ev_getR pm_m93 d93_1 f7_23 rfl hk rfl
theorem d93_4 : decode prog_1_method_54_code 4 = .ok (.iload_n 2, 1) := by decide +kernel
theorem s93_4 {v0 v1 v3 v4 v5 v6 v7 v8 v9 : Value} {l1 : Int32} {st : List Value} {im : IM} {rm : RM}  : ev 93 4 [v0, v1, .int l1, v3, v4, v5, v6, v7, v8, v9] st im rm = ev 93 5 [v0, v1, .int l1, v3, v4, v5, v6, v7, v8, v9] (.int l1 :: st) (im) (rm) := ev_iload_n pm_m93 d93_4 rfl rfl
theorem d93_5 : decode prog_1_method_54_code 5 = .ok (.aaload, 1) := by decide +kernel
theorem s93_5 {v0 v1 v2 v3 v4 v5 v6 v7 v8 v9 : Value} {a : Nat} {i : Int32} {st : List Value} {im : IM} {rm : RM} (hk : 2 ≤ kd a ∧ kd a ≤ 5) (hi : pm_in i (ln a) = true) : ev 93 5 [v0, v1, v2, v3, v4, v5, v6, v7, v8, v9] (.int i :: .ref a :: st) im rm = ev 93 6 [v0, v1, v2, v3, v4, v5, v6, v7, v8, v9] (pm_ro (rm a i.toNatClampNeg) :: st) (im) (rm) := ev_aald pm_m93 d93_5 hk hi rfl
theorem d93_6 : decode prog_1_method_54_code 6 = .ok (.astore_n 3, 1) := by decide +kernel
theorem s93_6 {v0 v1 v3 v4 v5 v6 v7 v8 v9 : Value} {l1 : Int32} {x2 : Nat} {st : List Value} {im : IM} {rm : RM}  : ev 93 6 [v0, v1, .int l1, v3, v4, v5, v6, v7, v8, v9] (.ref x2 :: st) im rm = ev 93 7 [v0, v1, .int l1, .ref x2, v4, v5, v6, v7, v8, v9] st (im) (rm) := ev_astore_n pm_m93 d93_6 (Nat.le_of_ble_eq_true rfl) rfl rfl
theorem d93_7 : decode prog_1_method_54_code 7 = .ok (.aload_n 0, 1) := by decide +kernel
theorem s93_7 {v1 v2 v3 v4 v5 v6 v7 v8 v9 : Value} {l1 : Nat} {st : List Value} {im : IM} {rm : RM}  : ev 93 7 [.ref l1, v1, v2, v3, v4, v5, v6, v7, v8, v9] st im rm = ev 93 8 [.ref l1, v1, v2, v3, v4, v5, v6, v7, v8, v9] (.ref l1 :: st) (im) (rm) := ev_aload_n pm_m93 d93_7 rfl rfl
theorem d93_8 : decode prog_1_method_54_code 8 = .ok (.getfield 62, 3) := by decide +kernel
theorem s93_8 {v0 v1 v2 v3 v4 v5 v6 v7 v8 v9 : Value} {a : Nat} {st : List Value} {im : IM} {rm : RM} (hk : kd a = 17) : ev 93 8 [v0, v1, v2, v3, v4, v5, v6, v7, v8, v9] (.ref a :: st) im rm = ev 93 11 [v0, v1, v2, v3, v4, v5, v6, v7, v8, v9] (pm_ro (rm a 9) :: st) (im) (rm) := ev_getR pm_m93 d93_8 f7_62 rfl hk rfl
theorem d93_11 : decode prog_1_method_54_code 11 = .ok (.iload_n 2, 1) := by decide +kernel
theorem s93_11 {v0 v1 v3 v4 v5 v6 v7 v8 v9 : Value} {l1 : Int32} {st : List Value} {im : IM} {rm : RM}  : ev 93 11 [v0, v1, .int l1, v3, v4, v5, v6, v7, v8, v9] st im rm = ev 93 12 [v0, v1, .int l1, v3, v4, v5, v6, v7, v8, v9] (.int l1 :: st) (im) (rm) := ev_iload_n pm_m93 d93_11 rfl rfl
theorem d93_12 : decode prog_1_method_54_code 12 = .ok (.iload_n 1, 1) := by decide +kernel
theorem s93_12 {v0 v2 v3 v4 v5 v6 v7 v8 v9 : Value} {l1 : Int32} {st : List Value} {im : IM} {rm : RM}  : ev 93 12 [v0, .int l1, v2, v3, v4, v5, v6, v7, v8, v9] st im rm = ev 93 13 [v0, .int l1, v2, v3, v4, v5, v6, v7, v8, v9] (.int l1 :: st) (im) (rm) := ev_iload_n pm_m93 d93_12 rfl rfl
theorem d93_13 : decode prog_1_method_54_code 13 = .ok (.sipush 200, 3) := by decide +kernel
theorem s93_13 {v0 v1 v2 v3 v4 v5 v6 v7 v8 v9 : Value}  {st : List Value} {im : IM} {rm : RM}  : ev 93 13 [v0, v1, v2, v3, v4, v5, v6, v7, v8, v9] st im rm = ev 93 16 [v0, v1, v2, v3, v4, v5, v6, v7, v8, v9] (.int (nI 200) :: st) (im) (rm) := ev_sipush pm_m93 d93_13 rfl rfl
theorem d93_16 : decode prog_1_method_54_code 16 = .ok (.invokevirtual 296, 3) := by decide +kernel
theorem s93_16 {v0 v1 v2 v3 v4 v5 v6 v7 v8 v9 : Value} {a : Nat} {p1 : Int32} {p2 : Int32} {p3 : Int32} {im : IM} {rm : RM} (hk : kd a = 15) : ev 93 16 [v0, v1, v2, v3, v4, v5, v6, v7, v8, v9] [.int p3, .int p2, .int p1, .ref a] im rm = (ev 22 0 [.ref a, .int p1, .int p2, .int p3, pm_u, pm_u] [] im rm).bind (fun r => ev 93 19 [v0, v1, v2, v3, v4, v5, v6, v7, v8, v9] (r.1.toList ++ []) r.2.1 r.2.2) := ev_callV pm_m93 d93_16 l7_296 rfl pm_m22 (by decide) hk rfl ⟨rfl, rfl⟩ rfl rfl
theorem d93_19 : decode prog_1_method_54_code 19 = .ok (.istore 4, 2) := by decide +kernel
theorem s93_19 {v0 v1 v2 v4 v5 v6 v7 v8 v9 : Value} {l1 : Nat} {x2 : Int32} {st : List Value} {im : IM} {rm : RM}  : ev 93 19 [v0, v1, v2, .ref l1, v4, v5, v6, v7, v8, v9] (.int x2 :: st) im rm = ev 93 21 [v0, v1, v2, .ref l1, .int x2, v5, v6, v7, v8, v9] st (im) (rm) := ev_istore pm_m93 d93_19 (Nat.le_of_ble_eq_true rfl) rfl rfl
theorem d93_21 : decode prog_1_method_54_code 21 = .ok (.aload_n 3, 1) := by decide +kernel
theorem s93_21 {v0 v1 v2 v4 v5 v6 v7 v8 v9 : Value} {l1 : Nat} {st : List Value} {im : IM} {rm : RM}  : ev 93 21 [v0, v1, v2, .ref l1, v4, v5, v6, v7, v8, v9] st im rm = ev 93 22 [v0, v1, v2, .ref l1, v4, v5, v6, v7, v8, v9] (.ref l1 :: st) (im) (rm) := ev_aload_n pm_m93 d93_21 rfl rfl
theorem d93_22 : decode prog_1_method_54_code 22 = .ok (.invokevirtual 363, 3) := by decide +kernel
theorem s93_22 {v0 v1 v2 v3 v4 v5 v6 v7 v8 v9 : Value} {a : Nat} {im : IM} {rm : RM} (hk : kd a = 11) : ev 93 22 [v0, v1, v2, v3, v4, v5, v6, v7, v8, v9] [.ref a] im rm = (ev 8 0 [.ref a, pm_u, pm_u] [] im rm).bind (fun r => ev 93 25 [v0, v1, v2, v3, v4, v5, v6, v7, v8, v9] (r.1.toList ++ []) r.2.1 r.2.2) := ev_callV pm_m93 d93_22 l7_363 rfl pm_m8 (by decide) hk rfl ⟨rfl, rfl⟩ rfl rfl
theorem d93_25 : decode prog_1_method_54_code 25 = .ok (.istore 5, 2) := by decide +kernel
theorem s93_25 {v0 v1 v2 v3 v5 v6 v7 v8 v9 : Value} {l1 : Int32} {x2 : Int32} {st : List Value} {im : IM} {rm : RM}  : ev 93 25 [v0, v1, v2, v3, .int l1, v5, v6, v7, v8, v9] (.int x2 :: st) im rm = ev 93 27 [v0, v1, v2, v3, .int l1, .int x2, v6, v7, v8, v9] st (im) (rm) := ev_istore pm_m93 d93_25 (Nat.le_of_ble_eq_true rfl) rfl rfl
theorem d93_27 : decode prog_1_method_54_code 27 = .ok (.iconst 0, 1) := by decide +kernel
theorem s93_27 {v0 v1 v2 v3 v4 v5 v6 v7 v8 v9 : Value}  {st : List Value} {im : IM} {rm : RM}  : ev 93 27 [v0, v1, v2, v3, v4, v5, v6, v7, v8, v9] st im rm = ev 93 28 [v0, v1, v2, v3, v4, v5, v6, v7, v8, v9] (.int (nI 0) :: st) (im) (rm) := ev_iconst pm_m93 d93_27 rfl rfl
theorem d93_28 : decode prog_1_method_54_code 28 = .ok (.istore 6, 2) := by decide +kernel
theorem s93_28 {v0 v1 v2 v3 v4 v6 v7 v8 v9 : Value} {l1 : Int32} {x2 : Int32} {st : List Value} {im : IM} {rm : RM}  : ev 93 28 [v0, v1, v2, v3, v4, .int l1, v6, v7, v8, v9] (.int x2 :: st) im rm = ev 93 30 [v0, v1, v2, v3, v4, .int l1, .int x2, v7, v8, v9] st (im) (rm) := ev_istore pm_m93 d93_28 (Nat.le_of_ble_eq_true rfl) rfl rfl
theorem d93_30 : decode prog_1_method_54_code 30 = .ok (.iconst 0, 1) := by decide +kernel
theorem s93_30 {v0 v1 v2 v3 v4 v5 v6 v7 v8 v9 : Value}  {st : List Value} {im : IM} {rm : RM}  : ev 93 30 [v0, v1, v2, v3, v4, v5, v6, v7, v8, v9] st im rm = ev 93 31 [v0, v1, v2, v3, v4, v5, v6, v7, v8, v9] (.int (nI 0) :: st) (im) (rm) := ev_iconst pm_m93 d93_30 rfl rfl
theorem d93_31 : decode prog_1_method_54_code 31 = .ok (.istore 7, 2) := by decide +kernel
theorem s93_31 {v0 v1 v2 v3 v4 v5 v7 v8 v9 : Value} {l1 : Int32} {x2 : Int32} {st : List Value} {im : IM} {rm : RM}  : ev 93 31 [v0, v1, v2, v3, v4, v5, .int l1, v7, v8, v9] (.int x2 :: st) im rm = ev 93 33 [v0, v1, pm_u, v3, v4, v5, .int l1, .int x2, pm_u, pm_u] st (im) (rm) := ev_istore pm_m93 d93_31 (Nat.le_of_ble_eq_true rfl) rfl rfl
theorem d93_33 : decode prog_1_method_54_code 33 = .ok (.iload 7, 2) := by decide +kernel
theorem s93_33 {v0 v1 v2 v3 v4 v5 v6 v8 v9 : Value} {l1 : Int32} {st : List Value} {im : IM} {rm : RM}  : ev 93 33 [v0, v1, v2, v3, v4, v5, v6, .int l1, v8, v9] st im rm = ev 93 35 [v0, v1, v2, v3, v4, v5, v6, .int l1, v8, v9] (.int l1 :: st) (im) (rm) := ev_iload pm_m93 d93_33 rfl rfl
theorem d93_35 : decode prog_1_method_54_code 35 = .ok (.aload_n 3, 1) := by decide +kernel
theorem s93_35 {v0 v1 v2 v4 v5 v6 v7 v8 v9 : Value} {l1 : Nat} {st : List Value} {im : IM} {rm : RM}  : ev 93 35 [v0, v1, v2, .ref l1, v4, v5, v6, v7, v8, v9] st im rm = ev 93 36 [v0, v1, v2, .ref l1, v4, v5, v6, v7, v8, v9] (.ref l1 :: st) (im) (rm) := ev_aload_n pm_m93 d93_35 rfl rfl
theorem d93_36 : decode prog_1_method_54_code 36 = .ok (.getfield 163, 3) := by decide +kernel
theorem s93_36 {v0 v1 v2 v3 v4 v5 v6 v7 v8 v9 : Value} {a : Nat} {st : List Value} {im : IM} {rm : RM} (hk : kd a = 11) : ev 93 36 [v0, v1, v2, v3, v4, v5, v6, v7, v8, v9] (.ref a :: st) im rm = ev 93 39 [v0, v1, v2, v3, v4, v5, v6, v7, v8, v9] (.int (im a 0) :: st) (im) (rm) := ev_getI pm_m93 d93_36 f7_163 rfl hk rfl
theorem d93_39 : decode prog_1_method_54_code 39 = .ok (.if_icmp .ge 171, 3) := by decide +kernel
theorem s93_39 {v0 v1 v2 v3 v4 v5 v6 v7 v8 v9 : Value} {x : Int32} {y : Int32} {st : List Value} {im : IM} {rm : RM} : ev 93 39 [v0, v1, v2, v3, v4, v5, v6, v7, v8, v9] (.int y :: .int x :: st) im rm = if y ≤ x then ev 93 210 [pm_u, pm_u, pm_u, pm_u, pm_u, pm_u, v6, pm_u, pm_u, pm_u] st im rm else ev 93 42 [v0, v1, v2, v3, v4, v5, v6, v7, v8, v9] st im rm := ev_icmp_ge pm_m93 d93_39 rfl rfl rfl
theorem d93_42 : decode prog_1_method_54_code 42 = .ok (.aload_n 3, 1) := by decide +kernel
theorem s93_42 {v0 v1 v2 v4 v5 v6 v7 v8 v9 : Value} {l1 : Nat} {st : List Value} {im : IM} {rm : RM}  : ev 93 42 [v0, v1, v2, .ref l1, v4, v5, v6, v7, v8, v9] st im rm = ev 93 43 [v0, v1, v2, .ref l1, v4, v5, v6, v7, v8, v9] (.ref l1 :: st) (im) (rm) := ev_aload_n pm_m93 d93_42 rfl rfl
theorem d93_43 : decode prog_1_method_54_code 43 = .ok (.getfield 366, 3) := by decide +kernel
theorem s93_43 {v0 v1 v2 v3 v4 v5 v6 v7 v8 v9 : Value} {a : Nat} {st : List Value} {im : IM} {rm : RM} (hk : kd a = 11) : ev 93 43 [v0, v1, v2, v3, v4, v5, v6, v7, v8, v9] (.ref a :: st) im rm = ev 93 46 [v0, v1, v2, v3, v4, v5, v6, v7, v8, v9] (pm_ro (rm a 2) :: st) (im) (rm) := ev_getR pm_m93 d93_43 f7_366 rfl hk rfl
theorem d93_46 : decode prog_1_method_54_code 46 = .ok (.iload 7, 2) := by decide +kernel
theorem s93_46 {v0 v1 v2 v3 v4 v5 v6 v8 v9 : Value} {l1 : Int32} {st : List Value} {im : IM} {rm : RM}  : ev 93 46 [v0, v1, v2, v3, v4, v5, v6, .int l1, v8, v9] st im rm = ev 93 48 [v0, v1, v2, v3, v4, v5, v6, .int l1, v8, v9] (.int l1 :: st) (im) (rm) := ev_iload pm_m93 d93_46 rfl rfl
theorem d93_48 : decode prog_1_method_54_code 48 = .ok (.iaload, 1) := by decide +kernel
theorem s93_48 {v0 v1 v2 v3 v4 v5 v6 v7 v8 v9 : Value} {a : Nat} {i : Int32} {st : List Value} {im : IM} {rm : RM} (hk : kd a = 0) (hi : pm_in i (ln a) = true) : ev 93 48 [v0, v1, v2, v3, v4, v5, v6, v7, v8, v9] (.int i :: .ref a :: st) im rm = ev 93 49 [v0, v1, v2, v3, v4, v5, v6, v7, v8, v9] (.int (im a i.toNatClampNeg) :: st) (im) (rm) := ev_iald pm_m93 d93_48 hk hi rfl
theorem d93_49 : decode prog_1_method_54_code 49 = .ok (.istore 8, 2) := by decide +kernel
theorem s93_49 {v0 v1 v2 v3 v4 v5 v6 v8 v9 : Value} {l1 : Int32} {x2 : Int32} {st : List Value} {im : IM} {rm : RM}  : ev 93 49 [v0, v1, v2, v3, v4, v5, v6, .int l1, v8, v9] (.int x2 :: st) im rm = ev 93 51 [v0, v1, v2, v3, v4, v5, v6, .int l1, .int x2, v9] st (im) (rm) := ev_istore pm_m93 d93_49 (Nat.le_of_ble_eq_true rfl) rfl rfl
theorem d93_51 : decode prog_1_method_54_code 51 = .ok (.iconst 0, 1) := by decide +kernel
theorem s93_51 {v0 v1 v2 v3 v4 v5 v6 v7 v8 v9 : Value}  {st : List Value} {im : IM} {rm : RM}  : ev 93 51 [v0, v1, v2, v3, v4, v5, v6, v7, v8, v9] st im rm = ev 93 52 [v0, v1, v2, v3, v4, v5, v6, v7, v8, v9] (.int (nI 0) :: st) (im) (rm) := ev_iconst pm_m93 d93_51 rfl rfl
theorem d93_52 : decode prog_1_method_54_code 52 = .ok (.istore 9, 2) := by decide +kernel
theorem s93_52 {v0 v1 v2 v3 v4 v5 v6 v7 v9 : Value} {l1 : Int32} {x2 : Int32} {st : List Value} {im : IM} {rm : RM}  : ev 93 52 [v0, v1, v2, v3, v4, v5, v6, v7, .int l1, v9] (.int x2 :: st) im rm = ev 93 54 [v0, v1, v2, v3, v4, v5, v6, v7, .int l1, .int x2] st (im) (rm) := ev_istore pm_m93 d93_52 (Nat.le_of_ble_eq_true rfl) rfl rfl
theorem d93_54 : decode prog_1_method_54_code 54 = .ok (.aload_n 3, 1) := by decide +kernel
theorem s93_54 {v0 v1 v2 v4 v5 v6 v7 v8 v9 : Value} {l1 : Nat} {st : List Value} {im : IM} {rm : RM}  : ev 93 54 [v0, v1, v2, .ref l1, v4, v5, v6, v7, v8, v9] st im rm = ev 93 55 [v0, v1, v2, .ref l1, v4, v5, v6, v7, v8, v9] (.ref l1 :: st) (im) (rm) := ev_aload_n pm_m93 d93_54 rfl rfl
theorem d93_55 : decode prog_1_method_54_code 55 = .ok (.getfield 369, 3) := by decide +kernel
theorem s93_55 {v0 v1 v2 v3 v4 v5 v6 v7 v8 v9 : Value} {a : Nat} {st : List Value} {im : IM} {rm : RM} (hk : kd a = 11) : ev 93 55 [v0, v1, v2, v3, v4, v5, v6, v7, v8, v9] (.ref a :: st) im rm = ev 93 58 [v0, v1, v2, v3, v4, v5, v6, v7, v8, v9] (pm_ro (rm a 1) :: st) (im) (rm) := ev_getR pm_m93 d93_55 f7_369 rfl hk rfl
theorem d93_58 : decode prog_1_method_54_code 58 = .ok (.iload 7, 2) := by decide +kernel
theorem s93_58 {v0 v1 v2 v3 v4 v5 v6 v8 v9 : Value} {l1 : Int32} {st : List Value} {im : IM} {rm : RM}  : ev 93 58 [v0, v1, v2, v3, v4, v5, v6, .int l1, v8, v9] st im rm = ev 93 60 [v0, v1, v2, v3, v4, v5, v6, .int l1, v8, v9] (.int l1 :: st) (im) (rm) := ev_iload pm_m93 d93_58 rfl rfl
theorem d93_60 : decode prog_1_method_54_code 60 = .ok (.iaload, 1) := by decide +kernel
theorem s93_60 {v0 v1 v2 v3 v4 v5 v6 v7 v8 v9 : Value} {a : Nat} {i : Int32} {st : List Value} {im : IM} {rm : RM} (hk : kd a = 0) (hi : pm_in i (ln a) = true) : ev 93 60 [v0, v1, v2, v3, v4, v5, v6, v7, v8, v9] (.int i :: .ref a :: st) im rm = ev 93 61 [v0, v1, v2, v3, v4, v5, v6, v7, v8, v9] (.int (im a i.toNatClampNeg) :: st) (im) (rm) := ev_iald pm_m93 d93_60 hk hi rfl
theorem d93_61 : decode prog_1_method_54_code 61 = .ok (.tableswitch 129 0 3 #[31, 46, 79, 95], 31) := by decide +kernel
theorem s93_61_0 {v0 v1 v2 v3 v4 v5 v6 v7 v8 v9 : Value}  {st : List Value} {im : IM} {rm : RM}  : ev 93 61 [v0, v1, v2, v3, v4, v5, v6, v7, v8, v9] (.int (nI 0) :: st) im rm = ev 93 92 [v0, v1, pm_u, v3, v4, v5, v6, v7, v8, pm_u] st (im) (rm) := ev_swI pm_m93 d93_61 (by decide) rfl rfl rfl
theorem s93_61_1 {v0 v1 v2 v3 v4 v5 v6 v7 v8 v9 : Value}  {st : List Value} {im : IM} {rm : RM}  : ev 93 61 [v0, v1, v2, v3, v4, v5, v6, v7, v8, v9] (.int (nI 1) :: st) im rm = ev 93 107 [v0, v1, pm_u, v3, v4, v5, v6, v7, v8, pm_u] st (im) (rm) := ev_swI pm_m93 d93_61 (by decide) rfl rfl rfl
theorem s93_61_2 {v0 v1 v2 v3 v4 v5 v6 v7 v8 v9 : Value}  {st : List Value} {im : IM} {rm : RM}  : ev 93 61 [v0, v1, v2, v3, v4, v5, v6, v7, v8, v9] (.int (nI 2) :: st) im rm = ev 93 140 [v0, v1, pm_u, v3, v4, v5, v6, v7, v8, pm_u] st (im) (rm) := ev_swI pm_m93 d93_61 (by decide) rfl rfl rfl
theorem s93_61_3 {v0 v1 v2 v3 v4 v5 v6 v7 v8 v9 : Value}  {st : List Value} {im : IM} {rm : RM}  : ev 93 61 [v0, v1, v2, v3, v4, v5, v6, v7, v8, v9] (.int (nI 3) :: st) im rm = ev 93 156 [v0, v1, pm_u, v3, v4, v5, v6, v7, v8, pm_u] st (im) (rm) := ev_swI pm_m93 d93_61 (by decide) rfl rfl rfl
theorem s93_61_o {v0 v1 v2 v3 v4 v5 v6 v7 v8 v9 : Value} {x : Int32} {st : List Value} {im : IM} {rm : RM} (h1 : x.toInt < 0 ∨ 3 < x.toInt) : ev 93 61 [v0, v1, v2, v3, v4, v5, v6, v7, v8, v9] (.int x :: st) im rm = ev 93 190 [v0, v1, pm_u, v3, v4, v5, v6, v7, pm_u, v9] st (im) (rm) := ev_swO pm_m93 d93_61 h1 rfl rfl
theorem d93_92 : decode prog_1_method_54_code 92 = .ok (.aload_n 0, 1) := by decide +kernel
theorem s93_92 {v1 v2 v3 v4 v5 v6 v7 v8 v9 : Value} {l1 : Nat} {st : List Value} {im : IM} {rm : RM}  : ev 93 92 [.ref l1, v1, v2, v3, v4, v5, v6, v7, v8, v9] st im rm = ev 93 93 [.ref l1, v1, v2, v3, v4, v5, v6, v7, v8, v9] (.ref l1 :: st) (im) (rm) := ev_aload_n pm_m93 d93_92 rfl rfl
theorem d93_93 : decode prog_1_method_54_code 93 = .ok (.iload_n 1, 1) := by decide +kernel
theorem s93_93 {v0 v2 v3 v4 v5 v6 v7 v8 v9 : Value} {l1 : Int32} {st : List Value} {im : IM} {rm : RM}  : ev 93 93 [v0, .int l1, v2, v3, v4, v5, v6, v7, v8, v9] st im rm = ev 93 94 [v0, .int l1, v2, v3, v4, v5, v6, v7, v8, v9] (.int l1 :: st) (im) (rm) := ev_iload_n pm_m93 d93_93 rfl rfl
theorem d93_94 : decode prog_1_method_54_code 94 = .ok (.iconst 0, 1) := by decide +kernel
theorem s93_94 {v0 v1 v2 v3 v4 v5 v6 v7 v8 v9 : Value}  {st : List Value} {im : IM} {rm : RM}  : ev 93 94 [v0, v1, v2, v3, v4, v5, v6, v7, v8, v9] st im rm = ev 93 95 [v0, v1, v2, v3, v4, v5, v6, v7, v8, v9] (.int (nI 0) :: st) (im) (rm) := ev_iconst pm_m93 d93_94 rfl rfl
theorem d93_95 : decode prog_1_method_54_code 95 = .ok (.bipush 100, 2) := by decide +kernel
theorem s93_95 {v0 v1 v2 v3 v4 v5 v6 v7 v8 v9 : Value}  {st : List Value} {im : IM} {rm : RM}  : ev 93 95 [v0, v1, v2, v3, v4, v5, v6, v7, v8, v9] st im rm = ev 93 97 [v0, v1, v2, v3, v4, v5, v6, v7, v8, v9] (.int (nI 100) :: st) (im) (rm) := ev_bipush pm_m93 d93_95 rfl rfl
theorem d93_97 : decode prog_1_method_54_code 97 = .ok (.iload 8, 2) := by decide +kernel
theorem s93_97 {v0 v1 v2 v3 v4 v5 v6 v7 v9 : Value} {l1 : Int32} {st : List Value} {im : IM} {rm : RM}  : ev 93 97 [v0, v1, v2, v3, v4, v5, v6, v7, .int l1, v9] st im rm = ev 93 99 [v0, v1, v2, v3, v4, v5, v6, v7, .int l1, v9] (.int l1 :: st) (im) (rm) := ev_iload pm_m93 d93_97 rfl rfl
theorem d93_99 : decode prog_1_method_54_code 99 = .ok (.invokevirtual 372, 3) := by decide +kernel
theorem s93_99 {v0 v1 v2 v3 v4 v5 v6 v7 v8 v9 : Value} {a : Nat} {p1 : Int32} {p2 : Int32} {p3 : Int32} {p4 : Int32} {im : IM} {rm : RM} (hk : kd a = 17) : ev 93 99 [v0, v1, v2, v3, v4, v5, v6, v7, v8, v9] [.int p4, .int p3, .int p2, .int p1, .ref a] im rm = (ev 94 0 [.ref a, .int p1, .int p2, .int p3, .int p4, pm_u, pm_u] [] im rm).bind (fun r => ev 93 102 [v0, v1, v2, v3, v4, v5, v6, v7, v8, v9] (r.1.toList ++ []) r.2.1 r.2.2) := ev_callV pm_m93 d93_99 l7_372 rfl pm_m94 (by decide) hk rfl ⟨rfl, rfl⟩ rfl rfl
theorem d93_102 : decode prog_1_method_54_code 102 = .ok (.istore 9, 2) := by decide +kernel
theorem s93_102 {v0 v1 v2 v3 v4 v5 v6 v7 v9 : Value} {l1 : Int32} {x2 : Int32} {st : List Value} {im : IM} {rm : RM}  : ev 93 102 [v0, v1, v2, v3, v4, v5, v6, v7, .int l1, v9] (.int x2 :: st) im rm = ev 93 104 [v0, v1, v2, v3, v4, v5, v6, v7, .int l1, .int x2] st (im) (rm) := ev_istore pm_m93 d93_102 (Nat.le_of_ble_eq_true rfl) rfl rfl
theorem d93_104 : decode prog_1_method_54_code 104 = .ok (.goto 86, 3) := by decide +kernel
theorem s93_104 {v0 v1 v2 v3 v4 v5 v6 v7 v8 v9 : Value}  {st : List Value} {im : IM} {rm : RM}  : ev 93 104 [v0, v1, v2, v3, v4, v5, v6, v7, v8, v9] st im rm = ev 93 190 [v0, v1, pm_u, v3, v4, v5, v6, v7, pm_u, v9] st (im) (rm) := ev_goto pm_m93 d93_104 rfl rfl
theorem d93_107 : decode prog_1_method_54_code 107 = .ok (.iload 5, 2) := by decide +kernel
theorem s93_107 {v0 v1 v2 v3 v4 v6 v7 v8 v9 : Value} {l1 : Int32} {st : List Value} {im : IM} {rm : RM}  : ev 93 107 [v0, v1, v2, v3, v4, .int l1, v6, v7, v8, v9] st im rm = ev 93 109 [v0, v1, v2, v3, v4, .int l1, v6, v7, v8, v9] (.int l1 :: st) (im) (rm) := ev_iload pm_m93 d93_107 rfl rfl
theorem d93_109 : decode prog_1_method_54_code 109 = .ok (.iconst (-1), 1) := by decide +kernel
theorem s93_109 {v0 v1 v2 v3 v4 v5 v6 v7 v8 v9 : Value}  {st : List Value} {im : IM} {rm : RM}  : ev 93 109 [v0, v1, v2, v3, v4, v5, v6, v7, v8, v9] st im rm = ev 93 110 [v0, v1, v2, v3, v4, v5, v6, v7, v8, v9] (.int ((-1 : Int32)) :: st) (im) (rm) := ev_iconst pm_m93 d93_109 rfl rfl
theorem d93_110 : decode prog_1_method_54_code 110 = .ok (.if_icmp .eq 24, 3) := by decide +kernel
theorem s93_110 {v0 v1 v2 v3 v4 v5 v6 v7 v8 v9 : Value} {x : Int32} {y : Int32} {st : List Value} {im : IM} {rm : RM} : ev 93 110 [v0, v1, v2, v3, v4, v5, v6, v7, v8, v9] (.int y :: .int x :: st) im rm = if x = y then ev 93 134 [v0, v1, pm_u, v3, v4, v5, v6, v7, pm_u, pm_u] st im rm else ev 93 113 [v0, v1, v2, v3, v4, v5, v6, v7, v8, v9] st im rm := ev_icmp_eq pm_m93 d93_110 rfl rfl rfl
theorem d93_113 : decode prog_1_method_54_code 113 = .ok (.aload_n 0, 1) := by decide +kernel
theorem s93_113 {v1 v2 v3 v4 v5 v6 v7 v8 v9 : Value} {l1 : Nat} {st : List Value} {im : IM} {rm : RM}  : ev 93 113 [.ref l1, v1, v2, v3, v4, v5, v6, v7, v8, v9] st im rm = ev 93 114 [.ref l1, v1, v2, v3, v4, v5, v6, v7, v8, v9] (.ref l1 :: st) (im) (rm) := ev_aload_n pm_m93 d93_113 rfl rfl
theorem d93_114 : decode prog_1_method_54_code 114 = .ok (.iload_n 1, 1) := by decide +kernel
theorem s93_114 {v0 v2 v3 v4 v5 v6 v7 v8 v9 : Value} {l1 : Int32} {st : List Value} {im : IM} {rm : RM}  : ev 93 114 [v0, .int l1, v2, v3, v4, v5, v6, v7, v8, v9] st im rm = ev 93 115 [v0, .int l1, v2, v3, v4, v5, v6, v7, v8, v9] (.int l1 :: st) (im) (rm) := ev_iload_n pm_m93 d93_114 rfl rfl
theorem d93_115 : decode prog_1_method_54_code 115 = .ok (.iconst 1, 1) := by decide +kernel
theorem s93_115 {v0 v1 v2 v3 v4 v5 v6 v7 v8 v9 : Value}  {st : List Value} {im : IM} {rm : RM}  : ev 93 115 [v0, v1, v2, v3, v4, v5, v6, v7, v8, v9] st im rm = ev 93 116 [v0, v1, v2, v3, v4, v5, v6, v7, v8, v9] (.int (nI 1) :: st) (im) (rm) := ev_iconst pm_m93 d93_115 rfl rfl
theorem d93_116 : decode prog_1_method_54_code 116 = .ok (.sipush 10000, 3) := by decide +kernel
theorem s93_116 {v0 v1 v2 v3 v4 v5 v6 v7 v8 v9 : Value}  {st : List Value} {im : IM} {rm : RM}  : ev 93 116 [v0, v1, v2, v3, v4, v5, v6, v7, v8, v9] st im rm = ev 93 119 [v0, v1, v2, v3, v4, v5, v6, v7, v8, v9] (.int (nI 10000) :: st) (im) (rm) := ev_sipush pm_m93 d93_116 rfl rfl
theorem d93_119 : decode prog_1_method_54_code 119 = .ok (.iload 5, 2) := by decide +kernel
theorem s93_119 {v0 v1 v2 v3 v4 v6 v7 v8 v9 : Value} {l1 : Int32} {st : List Value} {im : IM} {rm : RM}  : ev 93 119 [v0, v1, v2, v3, v4, .int l1, v6, v7, v8, v9] st im rm = ev 93 121 [v0, v1, v2, v3, v4, .int l1, v6, v7, v8, v9] (.int l1 :: st) (im) (rm) := ev_iload pm_m93 d93_119 rfl rfl
theorem d93_121 : decode prog_1_method_54_code 121 = .ok (.iload 8, 2) := by decide +kernel
theorem s93_121 {v0 v1 v2 v3 v4 v5 v6 v7 v9 : Value} {l1 : Int32} {st : List Value} {im : IM} {rm : RM}  : ev 93 121 [v0, v1, v2, v3, v4, v5, v6, v7, .int l1, v9] st im rm = ev 93 123 [v0, v1, v2, v3, v4, v5, v6, v7, .int l1, v9] (.int l1 :: st) (im) (rm) := ev_iload pm_m93 d93_121 rfl rfl
theorem d93_123 : decode prog_1_method_54_code 123 = .ok (.imul, 1) := by decide +kernel
theorem s93_123 {v0 v1 v2 v3 v4 v5 v6 v7 v8 v9 : Value} {x : Int32} {y : Int32} {st : List Value} {im : IM} {rm : RM}  : ev 93 123 [v0, v1, v2, v3, v4, v5, v6, v7, v8, v9] (.int y :: .int x :: st) im rm = ev 93 124 [v0, v1, v2, v3, v4, v5, v6, v7, v8, v9] (.int (x * y) :: st) (im) (rm) := ev_imul pm_m93 d93_123 rfl
theorem d93_124 : decode prog_1_method_54_code 124 = .ok (.invokevirtual 372, 3) := by decide +kernel
theorem s93_124 {v0 v1 v2 v3 v4 v5 v6 v7 v8 v9 : Value} {a : Nat} {p1 : Int32} {p2 : Int32} {p3 : Int32} {p4 : Int32} {im : IM} {rm : RM} (hk : kd a = 17) : ev 93 124 [v0, v1, v2, v3, v4, v5, v6, v7, v8, v9] [.int p4, .int p3, .int p2, .int p1, .ref a] im rm = (ev 94 0 [.ref a, .int p1, .int p2, .int p3, .int p4, pm_u, pm_u] [] im rm).bind (fun r => ev 93 127 [v0, v1, v2, v3, v4, v5, v6, v7, v8, v9] (r.1.toList ++ []) r.2.1 r.2.2) := ev_callV pm_m93 d93_124 l7_372 rfl pm_m94 (by decide) hk rfl ⟨rfl, rfl⟩ rfl rfl
theorem d93_127 : decode prog_1_method_54_code 127 = .ok (.ifCond .eq 7, 3) := by decide +kernel
theorem s93_127 {v0 v1 v2 v3 v4 v5 v6 v7 v8 v9 : Value} {x : Int32} {st : List Value} {im : IM} {rm : RM} : ev 93 127 [v0, v1, v2, v3, v4, v5, v6, v7, v8, v9] (.int x :: st) im rm = if x = nI 0 then ev 93 134 [v0, v1, pm_u, v3, v4, v5, v6, v7, pm_u, pm_u] st im rm else ev 93 130 [v0, v1, v2, v3, v4, v5, v6, v7, v8, v9] st im rm := ev_if_eq (y := 0) pm_m93 d93_127 rfl rfl rfl
theorem d93_130 : decode prog_1_method_54_code 130 = .ok (.iconst 1, 1) := by decide +kernel
theorem s93_130 {v0 v1 v2 v3 v4 v5 v6 v7 v8 v9 : Value}  {st : List Value} {im : IM} {rm : RM}  : ev 93 130 [v0, v1, v2, v3, v4, v5, v6, v7, v8, v9] st im rm = ev 93 131 [v0, v1, v2, v3, v4, v5, v6, v7, v8, v9] (.int (nI 1) :: st) (im) (rm) := ev_iconst pm_m93 d93_130 rfl rfl
theorem d93_131 : decode prog_1_method_54_code 131 = .ok (.goto 4, 3) := by decide +kernel
theorem s93_131 {v0 v1 v2 v3 v4 v5 v6 v7 v8 v9 : Value}  {st : List Value} {im : IM} {rm : RM}  : ev 93 131 [v0, v1, v2, v3, v4, v5, v6, v7, v8, v9] st im rm = ev 93 135 [v0, v1, pm_u, v3, v4, v5, v6, v7, pm_u, pm_u] st (im) (rm) := ev_goto pm_m93 d93_131 rfl rfl
theorem d93_134 : decode prog_1_method_54_code 134 = .ok (.iconst 0, 1) := by decide +kernel
theorem s93_134 {v0 v1 v2 v3 v4 v5 v6 v7 v8 v9 : Value}  {st : List Value} {im : IM} {rm : RM}  : ev 93 134 [v0, v1, v2, v3, v4, v5, v6, v7, v8, v9] st im rm = ev 93 135 [v0, v1, pm_u, v3, v4, v5, v6, v7, pm_u, pm_u] (.int (nI 0) :: st) (im) (rm) := ev_iconst pm_m93 d93_134 rfl rfl
theorem d93_135 : decode prog_1_method_54_code 135 = .ok (.istore 9, 2) := by decide +kernel
theorem s93_135 {v0 v1 v2 v3 v4 v5 v6 v7 v9 : Value} {x1 : Int32} {st : List Value} {im : IM} {rm : RM}  : ev 93 135 [v0, v1, v2, v3, v4, v5, v6, v7, pm_u, v9] (.int x1 :: st) im rm = ev 93 137 [v0, v1, v2, v3, v4, v5, v6, v7, pm_u, .int x1] st (im) (rm) := ev_istore pm_m93 d93_135 (Nat.le_of_ble_eq_true rfl) rfl rfl
theorem d93_137 : decode prog_1_method_54_code 137 = .ok (.goto 53, 3) := by decide +kernel
theorem s93_137 {v0 v1 v2 v3 v4 v5 v6 v7 v8 v9 : Value}  {st : List Value} {im : IM} {rm : RM}  : ev 93 137 [v0, v1, v2, v3, v4, v5, v6, v7, v8, v9] st im rm = ev 93 190 [v0, v1, pm_u, v3, v4, v5, v6, v7, pm_u, v9] st (im) (rm) := ev_goto pm_m93 d93_137 rfl rfl
theorem d93_140 : decode prog_1_method_54_code 140 = .ok (.aload_n 0, 1) := by decide +kernel
theorem s93_140 {v1 v2 v3 v4 v5 v6 v7 v8 v9 : Value} {l1 : Nat} {st : List Value} {im : IM} {rm : RM}  : ev 93 140 [.ref l1, v1, v2, v3, v4, v5, v6, v7, v8, v9] st im rm = ev 93 141 [.ref l1, v1, v2, v3, v4, v5, v6, v7, v8, v9] (.ref l1 :: st) (im) (rm) := ev_aload_n pm_m93 d93_140 rfl rfl
theorem d93_141 : decode prog_1_method_54_code 141 = .ok (.getfield 17, 3) := by decide +kernel
theorem s93_141 {v0 v1 v2 v3 v4 v5 v6 v7 v8 v9 : Value} {a : Nat} {st : List Value} {im : IM} {rm : RM} (hk : kd a = 17) : ev 93 141 [v0, v1, v2, v3, v4, v5, v6, v7, v8, v9] (.ref a :: st) im rm = ev 93 144 [v0, v1, v2, v3, v4, v5, v6, v7, v8, v9] (pm_ro (rm a 1) :: st) (im) (rm) := ev_getR pm_m93 d93_141 f7_17 rfl hk rfl
theorem d93_144 : decode prog_1_method_54_code 144 = .ok (.iload_n 1, 1) := by decide +kernel
theorem s93_144 {v0 v2 v3 v4 v5 v6 v7 v8 v9 : Value} {l1 : Int32} {st : List Value} {im : IM} {rm : RM}  : ev 93 144 [v0, .int l1, v2, v3, v4, v5, v6, v7, v8, v9] st im rm = ev 93 145 [v0, .int l1, v2, v3, v4, v5, v6, v7, v8, v9] (.int l1 :: st) (im) (rm) := ev_iload_n pm_m93 d93_144 rfl rfl
theorem d93_145 : decode prog_1_method_54_code 145 = .ok (.aaload, 1) := by decide +kernel
theorem s93_145 {v0 v1 v2 v3 v4 v5 v6 v7 v8 v9 : Value} {a : Nat} {i : Int32} {st : List Value} {im : IM} {rm : RM} (hk : 2 ≤ kd a ∧ kd a ≤ 5) (hi : pm_in i (ln a) = true) : ev 93 145 [v0, v1, v2, v3, v4, v5, v6, v7, v8, v9] (.int i :: .ref a :: st) im rm = ev 93 146 [v0, v1, v2, v3, v4, v5, v6, v7, v8, v9] (pm_ro (rm a i.toNatClampNeg) :: st) (im) (rm) := ev_aald pm_m93 d93_145 hk hi rfl
theorem d93_146 : decode prog_1_method_54_code 146 = .ok (.iload 8, 2) := by decide +kernel
theorem s93_146 {v0 v1 v2 v3 v4 v5 v6 v7 v9 : Value} {l1 : Int32} {st : List Value} {im : IM} {rm : RM}  : ev 93 146 [v0, v1, v2, v3, v4, v5, v6, v7, .int l1, v9] st im rm = ev 93 148 [v0, v1, v2, v3, v4, v5, v6, v7, .int l1, v9] (.int l1 :: st) (im) (rm) := ev_iload pm_m93 d93_146 rfl rfl
theorem d93_148 : decode prog_1_method_54_code 148 = .ok (.invokevirtual 376, 3) := by decide +kernel
theorem s93_148 {v0 v1 v2 v3 v4 v5 v6 v7 v8 v9 : Value} {a : Nat} {p1 : Int32} {im : IM} {rm : RM} (hk : kd a = 14) : ev 93 148 [v0, v1, v2, v3, v4, v5, v6, v7, v8, v9] [.int p1, .ref a] im rm = (ev 19 0 [.ref a, .int p1, pm_u, pm_u, pm_u] [] im rm).bind (fun r => ev 93 151 [v0, v1, v2, v3, v4, v5, v6, v7, v8, v9] (r.1.toList ++ []) r.2.1 r.2.2) := ev_callV pm_m93 d93_148 l7_376 rfl pm_m19 (by decide) hk rfl ⟨rfl, rfl⟩ rfl rfl
theorem d93_151 : decode prog_1_method_54_code 151 = .ok (.istore 9, 2) := by decide +kernel
theorem s93_151 {v0 v1 v2 v3 v4 v5 v6 v7 v9 : Value} {l1 : Int32} {x2 : Int32} {st : List Value} {im : IM} {rm : RM}  : ev 93 151 [v0, v1, v2, v3, v4, v5, v6, v7, .int l1, v9] (.int x2 :: st) im rm = ev 93 153 [v0, v1, v2, v3, v4, v5, v6, v7, .int l1, .int x2] st (im) (rm) := ev_istore pm_m93 d93_151 (Nat.le_of_ble_eq_true rfl) rfl rfl
theorem d93_153 : decode prog_1_method_54_code 153 = .ok (.goto 37, 3) := by decide +kernel
theorem s93_153 {v0 v1 v2 v3 v4 v5 v6 v7 v8 v9 : Value}  {st : List Value} {im : IM} {rm : RM}  : ev 93 153 [v0, v1, v2, v3, v4, v5, v6, v7, v8, v9] st im rm = ev 93 190 [v0, v1, pm_u, v3, v4, v5, v6, v7, pm_u, v9] st (im) (rm) := ev_goto pm_m93 d93_153 rfl rfl
theorem d93_156 : decode prog_1_method_54_code 156 = .ok (.aload_n 0, 1) := by decide +kernel
theorem s93_156 {v1 v2 v3 v4 v5 v6 v7 v8 v9 : Value} {l1 : Nat} {st : List Value} {im : IM} {rm : RM}  : ev 93 156 [.ref l1, v1, v2, v3, v4, v5, v6, v7, v8, v9] st im rm = ev 93 157 [.ref l1, v1, v2, v3, v4, v5, v6, v7, v8, v9] (.ref l1 :: st) (im) (rm) := ev_aload_n pm_m93 d93_156 rfl rfl
theorem d93_157 : decode prog_1_method_54_code 157 = .ok (.getfield 17, 3) := by decide +kernel
theorem s93_157 {v0 v1 v2 v3 v4 v5 v6 v7 v8 v9 : Value} {a : Nat} {st : List Value} {im : IM} {rm : RM} (hk : kd a = 17) : ev 93 157 [v0, v1, v2, v3, v4, v5, v6, v7, v8, v9] (.ref a :: st) im rm = ev 93 160 [v0, v1, v2, v3, v4, v5, v6, v7, v8, v9] (pm_ro (rm a 1) :: st) (im) (rm) := ev_getR pm_m93 d93_157 f7_17 rfl hk rfl
theorem d93_160 : decode prog_1_method_54_code 160 = .ok (.iload_n 1, 1) := by decide +kernel
theorem s93_160 {v0 v2 v3 v4 v5 v6 v7 v8 v9 : Value} {l1 : Int32} {st : List Value} {im : IM} {rm : RM}  : ev 93 160 [v0, .int l1, v2, v3, v4, v5, v6, v7, v8, v9] st im rm = ev 93 161 [v0, .int l1, v2, v3, v4, v5, v6, v7, v8, v9] (.int l1 :: st) (im) (rm) := ev_iload_n pm_m93 d93_160 rfl rfl
theorem d93_161 : decode prog_1_method_54_code 161 = .ok (.aaload, 1) := by decide +kernel
theorem s93_161 {v0 v1 v2 v3 v4 v5 v6 v7 v8 v9 : Value} {a : Nat} {i : Int32} {st : List Value} {im : IM} {rm : RM} (hk : 2 ≤ kd a ∧ kd a ≤ 5) (hi : pm_in i (ln a) = true) : ev 93 161 [v0, v1, v2, v3, v4, v5, v6, v7, v8, v9] (.int i :: .ref a :: st) im rm = ev 93 162 [v0, v1, v2, v3, v4, v5, v6, v7, v8, v9] (pm_ro (rm a i.toNatClampNeg) :: st) (im) (rm) := ev_aald pm_m93 d93_161 hk hi rfl
theorem d93_162 : decode prog_1_method_54_code 162 = .ok (.iload 8, 2) := by decide +kernel
theorem s93_162 {v0 v1 v2 v3 v4 v5 v6 v7 v9 : Value} {l1 : Int32} {st : List Value} {im : IM} {rm : RM}  : ev 93 162 [v0, v1, v2, v3, v4, v5, v6, v7, .int l1, v9] st im rm = ev 93 164 [v0, v1, v2, v3, v4, v5, v6, v7, .int l1, v9] (.int l1 :: st) (im) (rm) := ev_iload pm_m93 d93_162 rfl rfl
theorem d93_164 : decode prog_1_method_54_code 164 = .ok (.invokevirtual 376, 3) := by decide +kernel
theorem s93_164 {v0 v1 v2 v3 v4 v5 v6 v7 v8 v9 : Value} {a : Nat} {p1 : Int32} {im : IM} {rm : RM} (hk : kd a = 14) : ev 93 164 [v0, v1, v2, v3, v4, v5, v6, v7, v8, v9] [.int p1, .ref a] im rm = (ev 19 0 [.ref a, .int p1, pm_u, pm_u, pm_u] [] im rm).bind (fun r => ev 93 167 [v0, v1, v2, v3, v4, v5, v6, v7, v8, v9] (r.1.toList ++ []) r.2.1 r.2.2) := ev_callV pm_m93 d93_164 l7_376 rfl pm_m19 (by decide) hk rfl ⟨rfl, rfl⟩ rfl rfl
theorem d93_167 : decode prog_1_method_54_code 167 = .ok (.ifCond .eq 17, 3) := by decide +kernel
theorem s93_167 {v0 v1 v2 v3 v4 v5 v6 v7 v8 v9 : Value} {x : Int32} {st : List Value} {im : IM} {rm : RM} : ev 93 167 [v0, v1, v2, v3, v4, v5, v6, v7, v8, v9] (.int x :: st) im rm = if x = nI 0 then ev 93 184 [v0, v1, pm_u, v3, v4, v5, v6, v7, pm_u, pm_u] st im rm else ev 93 170 [v0, v1, v2, v3, v4, v5, v6, v7, v8, v9] st im rm := ev_if_eq (y := 0) pm_m93 d93_167 rfl rfl rfl
theorem d93_170 : decode prog_1_method_54_code 170 = .ok (.iload 4, 2) := by decide +kernel
theorem s93_170 {v0 v1 v2 v3 v5 v6 v7 v8 v9 : Value} {l1 : Int32} {st : List Value} {im : IM} {rm : RM}  : ev 93 170 [v0, v1, v2, v3, .int l1, v5, v6, v7, v8, v9] st im rm = ev 93 172 [v0, v1, v2, v3, .int l1, v5, v6, v7, v8, v9] (.int l1 :: st) (im) (rm) := ev_iload pm_m93 d93_170 rfl rfl
theorem d93_172 : decode prog_1_method_54_code 172 = .ok (.iload 8, 2) := by decide +kernel
theorem s93_172 {v0 v1 v2 v3 v4 v5 v6 v7 v9 : Value} {l1 : Int32} {st : List Value} {im : IM} {rm : RM}  : ev 93 172 [v0, v1, v2, v3, v4, v5, v6, v7, .int l1, v9] st im rm = ev 93 174 [v0, v1, v2, v3, v4, v5, v6, v7, .int l1, v9] (.int l1 :: st) (im) (rm) := ev_iload pm_m93 d93_172 rfl rfl
theorem d93_174 : decode prog_1_method_54_code 174 = .ok (.ishr, 1) := by decide +kernel
theorem s93_174 {v0 v1 v2 v3 v4 v5 v6 v7 v8 v9 : Value} {x : Int32} {y : Int32} {st : List Value} {im : IM} {rm : RM}  : ev 93 174 [v0, v1, v2, v3, v4, v5, v6, v7, v8, v9] (.int y :: .int x :: st) im rm = ev 93 175 [v0, v1, v2, v3, v4, v5, v6, v7, v8, v9] (.int (x >>> (y &&& 31)) :: st) (im) (rm) := ev_ishr pm_m93 d93_174 rfl
theorem d93_175 : decode prog_1_method_54_code 175 = .ok (.iconst 1, 1) := by decide +kernel
theorem s93_175 {v0 v1 v2 v3 v4 v5 v6 v7 v8 v9 : Value}  {st : List Value} {im : IM} {rm : RM}  : ev 93 175 [v0, v1, v2, v3, v4, v5, v6, v7, v8, v9] st im rm = ev 93 176 [v0, v1, v2, v3, v4, v5, v6, v7, v8, v9] (.int (nI 1) :: st) (im) (rm) := ev_iconst pm_m93 d93_175 rfl rfl
theorem d93_176 : decode prog_1_method_54_code 176 = .ok (.iand, 1) := by decide +kernel
theorem s93_176 {v0 v1 v2 v3 v4 v5 v6 v7 v8 v9 : Value} {x : Int32} {y : Int32} {st : List Value} {im : IM} {rm : RM}  : ev 93 176 [v0, v1, v2, v3, v4, v5, v6, v7, v8, v9] (.int y :: .int x :: st) im rm = ev 93 177 [v0, v1, v2, v3, v4, v5, v6, v7, v8, v9] (.int (x &&& y) :: st) (im) (rm) := ev_iand pm_m93 d93_176 rfl
theorem d93_177 : decode prog_1_method_54_code 177 = .ok (.ifCond .ne 7, 3) := by decide +kernel
theorem s93_177 {v0 v1 v2 v3 v4 v5 v6 v7 v8 v9 : Value} {x : Int32} {st : List Value} {im : IM} {rm : RM} : ev 93 177 [v0, v1, v2, v3, v4, v5, v6, v7, v8, v9] (.int x :: st) im rm = if x = nI 0 then ev 93 180 [v0, v1, v2, v3, v4, v5, v6, v7, v8, v9] st im rm else ev 93 184 [v0, v1, pm_u, v3, v4, v5, v6, v7, pm_u, pm_u] st im rm := ev_if_ne (y := 0) pm_m93 d93_177 rfl rfl rfl
theorem d93_180 : decode prog_1_method_54_code 180 = .ok (.iconst 1, 1) := by decide +kernel
theorem s93_180 {v0 v1 v2 v3 v4 v5 v6 v7 v8 v9 : Value}  {st : List Value} {im : IM} {rm : RM}  : ev 93 180 [v0, v1, v2, v3, v4, v5, v6, v7, v8, v9] st im rm = ev 93 181 [v0, v1, v2, v3, v4, v5, v6, v7, v8, v9] (.int (nI 1) :: st) (im) (rm) := ev_iconst pm_m93 d93_180 rfl rfl
theorem d93_181 : decode prog_1_method_54_code 181 = .ok (.goto 4, 3) := by decide +kernel
theorem s93_181 {v0 v1 v2 v3 v4 v5 v6 v7 v8 v9 : Value}  {st : List Value} {im : IM} {rm : RM}  : ev 93 181 [v0, v1, v2, v3, v4, v5, v6, v7, v8, v9] st im rm = ev 93 185 [v0, v1, pm_u, v3, v4, v5, v6, v7, pm_u, pm_u] st (im) (rm) := ev_goto pm_m93 d93_181 rfl rfl
theorem d93_184 : decode prog_1_method_54_code 184 = .ok (.iconst 0, 1) := by decide +kernel
theorem s93_184 {v0 v1 v2 v3 v4 v5 v6 v7 v8 v9 : Value}  {st : List Value} {im : IM} {rm : RM}  : ev 93 184 [v0, v1, v2, v3, v4, v5, v6, v7, v8, v9] st im rm = ev 93 185 [v0, v1, pm_u, v3, v4, v5, v6, v7, pm_u, pm_u] (.int (nI 0) :: st) (im) (rm) := ev_iconst pm_m93 d93_184 rfl rfl
theorem d93_185 : decode prog_1_method_54_code 185 = .ok (.istore 9, 2) := by decide +kernel
theorem s93_185 {v0 v1 v2 v3 v4 v5 v6 v7 v9 : Value} {x1 : Int32} {st : List Value} {im : IM} {rm : RM}  : ev 93 185 [v0, v1, v2, v3, v4, v5, v6, v7, pm_u, v9] (.int x1 :: st) im rm = ev 93 187 [v0, v1, v2, v3, v4, v5, v6, v7, pm_u, .int x1] st (im) (rm) := ev_istore pm_m93 d93_185 (Nat.le_of_ble_eq_true rfl) rfl rfl
theorem d93_187 : decode prog_1_method_54_code 187 = .ok (.goto 3, 3) := by decide +kernel
theorem s93_187 {v0 v1 v2 v3 v4 v5 v6 v7 v8 v9 : Value}  {st : List Value} {im : IM} {rm : RM}  : ev 93 187 [v0, v1, v2, v3, v4, v5, v6, v7, v8, v9] st im rm = ev 93 190 [v0, v1, pm_u, v3, v4, v5, v6, v7, pm_u, v9] st (im) (rm) := ev_goto pm_m93 d93_187 rfl rfl
theorem d93_190 : decode prog_1_method_54_code 190 = .ok (.iload 9, 2) := by decide +kernel
theorem s93_190 {v0 v1 v2 v3 v4 v5 v6 v7 v8 : Value} {l1 : Int32} {st : List Value} {im : IM} {rm : RM}  : ev 93 190 [v0, v1, v2, v3, v4, v5, v6, v7, v8, .int l1] st im rm = ev 93 192 [v0, v1, v2, v3, v4, v5, v6, v7, v8, .int l1] (.int l1 :: st) (im) (rm) := ev_iload pm_m93 d93_190 rfl rfl
theorem d93_192 : decode prog_1_method_54_code 192 = .ok (.ifCond .eq 12, 3) := by decide +kernel
theorem s93_192 {v0 v1 v2 v3 v4 v5 v6 v7 v8 v9 : Value} {x : Int32} {st : List Value} {im : IM} {rm : RM} : ev 93 192 [v0, v1, v2, v3, v4, v5, v6, v7, v8, v9] (.int x :: st) im rm = if x = nI 0 then ev 93 204 [v0, v1, pm_u, v3, v4, v5, v6, v7, pm_u, pm_u] st im rm else ev 93 195 [v0, v1, v2, v3, v4, v5, v6, v7, v8, v9] st im rm := ev_if_eq (y := 0) pm_m93 d93_192 rfl rfl rfl
theorem d93_195 : decode prog_1_method_54_code 195 = .ok (.iload 6, 2) := by decide +kernel
theorem s93_195 {v0 v1 v2 v3 v4 v5 v7 v8 v9 : Value} {l1 : Int32} {st : List Value} {im : IM} {rm : RM}  : ev 93 195 [v0, v1, v2, v3, v4, v5, .int l1, v7, v8, v9] st im rm = ev 93 197 [v0, v1, v2, v3, v4, v5, .int l1, v7, v8, v9] (.int l1 :: st) (im) (rm) := ev_iload pm_m93 d93_195 rfl rfl
theorem d93_197 : decode prog_1_method_54_code 197 = .ok (.iconst 1, 1) := by decide +kernel
theorem s93_197 {v0 v1 v2 v3 v4 v5 v6 v7 v8 v9 : Value}  {st : List Value} {im : IM} {rm : RM}  : ev 93 197 [v0, v1, v2, v3, v4, v5, v6, v7, v8, v9] st im rm = ev 93 198 [v0, v1, v2, v3, v4, v5, v6, v7, v8, v9] (.int (nI 1) :: st) (im) (rm) := ev_iconst pm_m93 d93_197 rfl rfl
theorem d93_198 : decode prog_1_method_54_code 198 = .ok (.iload 7, 2) := by decide +kernel
theorem s93_198 {v0 v1 v2 v3 v4 v5 v6 v8 v9 : Value} {l1 : Int32} {st : List Value} {im : IM} {rm : RM}  : ev 93 198 [v0, v1, v2, v3, v4, v5, v6, .int l1, v8, v9] st im rm = ev 93 200 [v0, v1, v2, v3, v4, v5, v6, .int l1, v8, v9] (.int l1 :: st) (im) (rm) := ev_iload pm_m93 d93_198 rfl rfl
theorem d93_200 : decode prog_1_method_54_code 200 = .ok (.ishl, 1) := by decide +kernel
theorem s93_200 {v0 v1 v2 v3 v4 v5 v6 v7 v8 v9 : Value} {x : Int32} {y : Int32} {st : List Value} {im : IM} {rm : RM}  : ev 93 200 [v0, v1, v2, v3, v4, v5, v6, v7, v8, v9] (.int y :: .int x :: st) im rm = ev 93 201 [v0, v1, v2, v3, v4, v5, v6, v7, v8, v9] (.int (x <<< (y &&& 31)) :: st) (im) (rm) := ev_ishl pm_m93 d93_200 rfl
theorem d93_201 : decode prog_1_method_54_code 201 = .ok (.ior, 1) := by decide +kernel
theorem s93_201 {v0 v1 v2 v3 v4 v5 v6 v7 v8 v9 : Value} {x : Int32} {y : Int32} {st : List Value} {im : IM} {rm : RM}  : ev 93 201 [v0, v1, v2, v3, v4, v5, v6, v7, v8, v9] (.int y :: .int x :: st) im rm = ev 93 202 [v0, v1, v2, v3, v4, v5, v6, v7, v8, v9] (.int (x ||| y) :: st) (im) (rm) := ev_ior pm_m93 d93_201 rfl
theorem d93_202 : decode prog_1_method_54_code 202 = .ok (.istore 6, 2) := by decide +kernel
theorem s93_202 {v0 v1 v2 v3 v4 v6 v7 v8 v9 : Value} {l1 : Int32} {x2 : Int32} {st : List Value} {im : IM} {rm : RM}  : ev 93 202 [v0, v1, v2, v3, v4, .int l1, v6, v7, v8, v9] (.int x2 :: st) im rm = ev 93 204 [v0, v1, pm_u, v3, v4, .int l1, .int x2, v7, pm_u, pm_u] st (im) (rm) := ev_istore pm_m93 d93_202 (Nat.le_of_ble_eq_true rfl) rfl rfl
theorem d93_204 : decode prog_1_method_54_code 204 = .ok (.iinc 7 1, 3) := by decide +kernel
theorem s93_204 {v0 v1 v2 v3 v4 v5 v8 v9 : Value} {l1 : Int32} {l2 : Int32} {st : List Value} {im : IM} {rm : RM}  : ev 93 204 [v0, v1, v2, v3, v4, v5, .int l1, .int l2, v8, v9] st im rm = ev 93 207 [v0, v1, v2, v3, v4, v5, .int l1, .int (l2 + nI 1), v8, v9] st (im) (rm) := ev_iinc pm_m93 d93_204 rfl rfl rfl rfl
theorem d93_207 : decode prog_1_method_54_code 207 = .ok (.goto (-174), 3) := by decide +kernel
theorem s93_207 {v0 v1 v2 v3 v4 v5 v6 v7 v8 v9 : Value}  {st : List Value} {im : IM} {rm : RM}  : ev 93 207 [v0, v1, v2, v3, v4, v5, v6, v7, v8, v9] st im rm = ev 93 33 [v0, v1, pm_u, v3, v4, v5, v6, v7, pm_u, pm_u] st (im) (rm) := ev_goto pm_m93 d93_207 rfl rfl
theorem d93_210 : decode prog_1_method_54_code 210 = .ok (.iload 6, 2) := by decide +kernel
theorem s93_210 {v0 v1 v2 v3 v4 v5 v7 v8 v9 : Value} {l1 : Int32} {st : List Value} {im : IM} {rm : RM}  : ev 93 210 [v0, v1, v2, v3, v4, v5, .int l1, v7, v8, v9] st im rm = ev 93 212 [v0, v1, v2, v3, v4, v5, .int l1, v7, v8, v9] (.int l1 :: st) (im) (rm) := ev_iload pm_m93 d93_210 rfl rfl
theorem d93_212 : decode prog_1_method_54_code 212 = .ok (.ireturn, 1) := by decide +kernel
theorem s93_212 {v0 v1 v2 v3 v4 v5 v6 v7 v8 v9 : Value} {x : Int32} {im : IM} {rm : RM} : ev 93 212 [v0, v1, v2, v3, v4, v5, v6, v7, v8, v9] [.int x] im rm = some (some (.int x), im, rm) := ev_ireturn pm_m93 d93_212 rfl
theorem d94_0 : decode prog_1_method_55_code 0 = .ok (.iconst 0, 1) := by decide +kernel
theorem s94_0 {v0 v1 v2 v3 v4 v5 v6 : Value}  {st : List Value} {im : IM} {rm : RM}  : ev 94 0 [v0, v1, v2, v3, v4, v5, v6] st im rm = ev 94 1 [v0, v1, v2, v3, v4, v5, v6] (.int (nI 0) :: st) (im) (rm) := ev_iconst pm_m94 d94_0 rfl rfl
theorem d94_1 : decode prog_1_method_55_code 1 = .ok (.istore 5, 2) := by decide +kernel
theorem s94_1 {v0 v1 v2 v3 v5 v6 : Value} {l1 : Int32} {x2 : Int32} {st : List Value} {im : IM} {rm : RM}  : ev 94 1 [v0, v1, v2, v3, .int l1, v5, v6] (.int x2 :: st) im rm = ev 94 3 [v0, v1, v2, v3, .int l1, .int x2, pm_u] st (im) (rm) := ev_istore pm_m94 d94_1 (Nat.le_of_ble_eq_true rfl) rfl rfl
theorem d94_3 : decode prog_1_method_55_code 3 = .ok (.iload 5, 2) := by decide +kernel
theorem s94_3 {v0 v1 v2 v3 v4 v6 : Value} {l1 : Int32} {st : List Value} {im : IM} {rm : RM}  : ev 94 3 [v0, v1, v2, v3, v4, .int l1, v6] st im rm = ev 94 5 [v0, v1, v2, v3, v4, .int l1, v6] (.int l1 :: st) (im) (rm) := ev_iload pm_m94 d94_3 rfl rfl
theorem d94_5 : decode prog_1_method_55_code 5 = .ok (.bipush 6, 2) := by decide +kernel
theorem s94_5 {v0 v1 v2 v3 v4 v5 v6 : Value}  {st : List Value} {im : IM} {rm : RM}  : ev 94 5 [v0, v1, v2, v3, v4, v5, v6] st im rm = ev 94 7 [v0, v1, v2, v3, v4, v5, v6] (.int (nI 6) :: st) (im) (rm) := ev_bipush pm_m94 d94_5 rfl rfl
theorem d94_7 : decode prog_1_method_55_code 7 = .ok (.if_icmp .ge 51, 3) := by decide +kernel
theorem s94_7 {v0 v1 v2 v3 v4 v5 v6 : Value} {x : Int32} {y : Int32} {st : List Value} {im : IM} {rm : RM} : ev 94 7 [v0, v1, v2, v3, v4, v5, v6] (.int y :: .int x :: st) im rm = if y ≤ x then ev 94 58 [pm_u, pm_u, pm_u, pm_u, pm_u, pm_u, pm_u] st im rm else ev 94 10 [v0, v1, v2, v3, v4, v5, v6] st im rm := ev_icmp_ge pm_m94 d94_7 rfl rfl rfl
theorem d94_10 : decode prog_1_method_55_code 10 = .ok (.aload_n 0, 1) := by decide +kernel
theorem s94_10 {v1 v2 v3 v4 v5 v6 : Value} {l1 : Nat} {st : List Value} {im : IM} {rm : RM}  : ev 94 10 [.ref l1, v1, v2, v3, v4, v5, v6] st im rm = ev 94 11 [.ref l1, v1, v2, v3, v4, v5, v6] (.ref l1 :: st) (im) (rm) := ev_aload_n pm_m94 d94_10 rfl rfl
theorem d94_11 : decode prog_1_method_55_code 11 = .ok (.getfield 11, 3) := by decide +kernel
theorem s94_11 {v0 v1 v2 v3 v4 v5 v6 : Value} {a : Nat} {st : List Value} {im : IM} {rm : RM} (hk : kd a = 17) : ev 94 11 [v0, v1, v2, v3, v4, v5, v6] (.ref a :: st) im rm = ev 94 14 [v0, v1, v2, v3, v4, v5, v6] (pm_ro (rm a 0) :: st) (im) (rm) := ev_getR pm_m94 d94_11 f7_11 rfl hk rfl
theorem d94_14 : decode prog_1_method_55_code 14 = .ok (.iload 5, 2) := by decide +kernel
theorem s94_14 {v0 v1 v2 v3 v4 v6 : Value} {l1 : Int32} {st : List Value} {im : IM} {rm : RM}  : ev 94 14 [v0, v1, v2, v3, v4, .int l1, v6] st im rm = ev 94 16 [v0, v1, v2, v3, v4, .int l1, v6] (.int l1 :: st) (im) (rm) := ev_iload pm_m94 d94_14 rfl rfl
theorem d94_16 : decode prog_1_method_55_code 16 = .ok (.aaload, 1) := by decide +kernel
theorem s94_16 {v0 v1 v2 v3 v4 v5 v6 : Value} {a : Nat} {i : Int32} {st : List Value} {im : IM} {rm : RM} (hk : 2 ≤ kd a ∧ kd a ≤ 5) (hi : pm_in i (ln a) = true) : ev 94 16 [v0, v1, v2, v3, v4, v5, v6] (.int i :: .ref a :: st) im rm = ev 94 17 [v0, v1, v2, v3, v4, v5, v6] (pm_ro (rm a i.toNatClampNeg) :: st) (im) (rm) := ev_aald pm_m94 d94_16 hk hi rfl
theorem d94_17 : decode prog_1_method_55_code 17 = .ok (.astore 6, 2) := by decide +kernel
theorem s94_17 {v0 v1 v2 v3 v4 v6 : Value} {l1 : Int32} {x2 : Nat} {st : List Value} {im : IM} {rm : RM}  : ev 94 17 [v0, v1, v2, v3, v4, .int l1, v6] (.ref x2 :: st) im rm = ev 94 19 [v0, v1, v2, v3, v4, .int l1, .ref x2] st (im) (rm) := ev_astore pm_m94 d94_17 (Nat.le_of_ble_eq_true rfl) rfl rfl
theorem d94_19 : decode prog_1_method_55_code 19 = .ok (.aload 6, 2) := by decide +kernel
theorem s94_19 {v0 v1 v2 v3 v4 v5 : Value} {l1 : Nat} {st : List Value} {im : IM} {rm : RM}  : ev 94 19 [v0, v1, v2, v3, v4, v5, .ref l1] st im rm = ev 94 21 [v0, v1, v2, v3, v4, v5, .ref l1] (.ref l1 :: st) (im) (rm) := ev_aload pm_m94 d94_19 rfl rfl
theorem d94_21 : decode prog_1_method_55_code 21 = .ok (.getfield 246, 3) := by decide +kernel
theorem s94_21 {v0 v1 v2 v3 v4 v5 v6 : Value} {a : Nat} {st : List Value} {im : IM} {rm : RM} (hk : kd a = 10) : ev 94 21 [v0, v1, v2, v3, v4, v5, v6] (.ref a :: st) im rm = ev 94 24 [v0, v1, v2, v3, v4, v5, v6] (.int (im a 0) :: st) (im) (rm) := ev_getI pm_m94 d94_21 f7_246 rfl hk rfl
theorem d94_24 : decode prog_1_method_55_code 24 = .ok (.iload_n 2, 1) := by decide +kernel
theorem s94_24 {v0 v1 v3 v4 v5 v6 : Value} {l1 : Int32} {st : List Value} {im : IM} {rm : RM}  : ev 94 24 [v0, v1, .int l1, v3, v4, v5, v6] st im rm = ev 94 25 [v0, v1, .int l1, v3, v4, v5, v6] (.int l1 :: st) (im) (rm) := ev_iload_n pm_m94 d94_24 rfl rfl
theorem d94_25 : decode prog_1_method_55_code 25 = .ok (.if_icmp .ne 27, 3) := by decide +kernel
theorem s94_25 {v0 v1 v2 v3 v4 v5 v6 : Value} {x : Int32} {y : Int32} {st : List Value} {im : IM} {rm : RM} : ev 94 25 [v0, v1, v2, v3, v4, v5, v6] (.int y :: .int x :: st) im rm = if x = y then ev 94 28 [v0, v1, v2, v3, v4, v5, v6] st im rm else ev 94 52 [v0, v1, v2, v3, v4, v5, pm_u] st im rm := ev_icmp_ne pm_m94 d94_25 rfl rfl rfl
theorem d94_28 : decode prog_1_method_55_code 28 = .ok (.iload_n 3, 1) := by decide +kernel
theorem s94_28 {v0 v1 v2 v4 v5 v6 : Value} {l1 : Int32} {st : List Value} {im : IM} {rm : RM}  : ev 94 28 [v0, v1, v2, .int l1, v4, v5, v6] st im rm = ev 94 29 [v0, v1, v2, .int l1, v4, v5, v6] (.int l1 :: st) (im) (rm) := ev_iload_n pm_m94 d94_28 rfl rfl
theorem d94_29 : decode prog_1_method_55_code 29 = .ok (.aload_n 0, 1) := by decide +kernel
theorem s94_29 {v1 v2 v3 v4 v5 v6 : Value} {l1 : Nat} {st : List Value} {im : IM} {rm : RM}  : ev 94 29 [.ref l1, v1, v2, v3, v4, v5, v6] st im rm = ev 94 30 [.ref l1, v1, v2, v3, v4, v5, v6] (.ref l1 :: st) (im) (rm) := ev_aload_n pm_m94 d94_29 rfl rfl
theorem d94_30 : decode prog_1_method_55_code 30 = .ok (.getfield 90, 3) := by decide +kernel
theorem s94_30 {v0 v1 v2 v3 v4 v5 v6 : Value} {a : Nat} {st : List Value} {im : IM} {rm : RM} (hk : kd a = 17) : ev 94 30 [v0, v1, v2, v3, v4, v5, v6] (.ref a :: st) im rm = ev 94 33 [v0, v1, v2, v3, v4, v5, v6] (pm_ro (rm a 15) :: st) (im) (rm) := ev_getR pm_m94 d94_30 f7_90 rfl hk rfl
theorem d94_33 : decode prog_1_method_55_code 33 = .ok (.iload_n 1, 1) := by decide +kernel
theorem s94_33 {v0 v2 v3 v4 v5 v6 : Value} {l1 : Int32} {st : List Value} {im : IM} {rm : RM}  : ev 94 33 [v0, .int l1, v2, v3, v4, v5, v6] st im rm = ev 94 34 [v0, .int l1, v2, v3, v4, v5, v6] (.int l1 :: st) (im) (rm) := ev_iload_n pm_m94 d94_33 rfl rfl
theorem d94_34 : decode prog_1_method_55_code 34 = .ok (.aaload, 1) := by decide +kernel
theorem s94_34 {v0 v1 v2 v3 v4 v5 v6 : Value} {a : Nat} {i : Int32} {st : List Value} {im : IM} {rm : RM} (hk : 2 ≤ kd a ∧ kd a ≤ 5) (hi : pm_in i (ln a) = true) : ev 94 34 [v0, v1, v2, v3, v4, v5, v6] (.int i :: .ref a :: st) im rm = ev 94 35 [v0, v1, v2, v3, v4, v5, v6] (pm_ro (rm a i.toNatClampNeg) :: st) (im) (rm) := ev_aald pm_m94 d94_34 hk hi rfl
theorem d94_35 : decode prog_1_method_55_code 35 = .ok (.iload 5, 2) := by decide +kernel
theorem s94_35 {v0 v1 v2 v3 v4 v6 : Value} {l1 : Int32} {st : List Value} {im : IM} {rm : RM}  : ev 94 35 [v0, v1, v2, v3, v4, .int l1, v6] st im rm = ev 94 37 [v0, v1, v2, v3, v4, .int l1, v6] (.int l1 :: st) (im) (rm) := ev_iload pm_m94 d94_35 rfl rfl
theorem d94_37 : decode prog_1_method_55_code 37 = .ok (.iaload, 1) := by decide +kernel
theorem s94_37 {v0 v1 v2 v3 v4 v5 v6 : Value} {a : Nat} {i : Int32} {st : List Value} {im : IM} {rm : RM} (hk : kd a = 0) (hi : pm_in i (ln a) = true) : ev 94 37 [v0, v1, v2, v3, v4, v5, v6] (.int i :: .ref a :: st) im rm = ev 94 38 [v0, v1, v2, v3, v4, v5, v6] (.int (im a i.toNatClampNeg) :: st) (im) (rm) := ev_iald pm_m94 d94_37 hk hi rfl
theorem d94_38 : decode prog_1_method_55_code 38 = .ok (.imul, 1) := by decide +kernel
theorem s94_38 {v0 v1 v2 v3 v4 v5 v6 : Value} {x : Int32} {y : Int32} {st : List Value} {im : IM} {rm : RM}  : ev 94 38 [v0, v1, v2, v3, v4, v5, v6] (.int y :: .int x :: st) im rm = ev 94 39 [v0, v1, v2, v3, v4, v5, v6] (.int (x * y) :: st) (im) (rm) := ev_imul pm_m94 d94_38 rfl
theorem d94_39 : decode prog_1_method_55_code 39 = .ok (.iload 4, 2) := by decide +kernel
theorem s94_39 {v0 v1 v2 v3 v5 v6 : Value} {l1 : Int32} {st : List Value} {im : IM} {rm : RM}  : ev 94 39 [v0, v1, v2, v3, .int l1, v5, v6] st im rm = ev 94 41 [v0, v1, v2, v3, .int l1, v5, v6] (.int l1 :: st) (im) (rm) := ev_iload pm_m94 d94_39 rfl rfl
theorem d94_41 : decode prog_1_method_55_code 41 = .ok (.aload 6, 2) := by decide +kernel
theorem s94_41 {v0 v1 v2 v3 v4 v5 : Value} {l1 : Nat} {st : List Value} {im : IM} {rm : RM}  : ev 94 41 [v0, v1, v2, v3, v4, v5, .ref l1] st im rm = ev 94 43 [v0, v1, v2, v3, v4, v5, .ref l1] (.ref l1 :: st) (im) (rm) := ev_aload pm_m94 d94_41 rfl rfl
theorem d94_43 : decode prog_1_method_55_code 43 = .ok (.getfield 120, 3) := by decide +kernel
theorem s94_43 {v0 v1 v2 v3 v4 v5 v6 : Value} {a : Nat} {st : List Value} {im : IM} {rm : RM} (hk : kd a = 10) : ev 94 43 [v0, v1, v2, v3, v4, v5, v6] (.ref a :: st) im rm = ev 94 46 [v0, v1, v2, v3, v4, v5, v6] (.int (im a 2) :: st) (im) (rm) := ev_getI pm_m94 d94_43 f7_120 rfl hk rfl
theorem d94_46 : decode prog_1_method_55_code 46 = .ok (.imul, 1) := by decide +kernel
theorem s94_46 {v0 v1 v2 v3 v4 v5 v6 : Value} {x : Int32} {y : Int32} {st : List Value} {im : IM} {rm : RM}  : ev 94 46 [v0, v1, v2, v3, v4, v5, v6] (.int y :: .int x :: st) im rm = ev 94 47 [v0, v1, v2, v3, v4, v5, v6] (.int (x * y) :: st) (im) (rm) := ev_imul pm_m94 d94_46 rfl
theorem d94_47 : decode prog_1_method_55_code 47 = .ok (.if_icmp .le 5, 3) := by decide +kernel
theorem s94_47 {v0 v1 v2 v3 v4 v5 v6 : Value} {x : Int32} {y : Int32} {st : List Value} {im : IM} {rm : RM} : ev 94 47 [v0, v1, v2, v3, v4, v5, v6] (.int y :: .int x :: st) im rm = if x ≤ y then ev 94 52 [v0, v1, v2, v3, v4, v5, pm_u] st im rm else ev 94 50 [v0, v1, v2, v3, v4, v5, v6] st im rm := ev_icmp_le pm_m94 d94_47 rfl rfl rfl
theorem d94_50 : decode prog_1_method_55_code 50 = .ok (.iconst 1, 1) := by decide +kernel
theorem s94_50 {v0 v1 v2 v3 v4 v5 v6 : Value}  {st : List Value} {im : IM} {rm : RM}  : ev 94 50 [v0, v1, v2, v3, v4, v5, v6] st im rm = ev 94 51 [v0, v1, v2, v3, v4, v5, v6] (.int (nI 1) :: st) (im) (rm) := ev_iconst pm_m94 d94_50 rfl rfl
theorem d94_51 : decode prog_1_method_55_code 51 = .ok (.ireturn, 1) := by decide +kernel
theorem s94_51 {v0 v1 v2 v3 v4 v5 v6 : Value} {x : Int32} {im : IM} {rm : RM} (hx : x = 0 ∨ x = 1) : ev 94 51 [v0, v1, v2, v3, v4, v5, v6] [.int x] im rm = some (some (.int x), im, rm) := ev_zreturn pm_m94 d94_51 rfl hx
theorem d94_52 : decode prog_1_method_55_code 52 = .ok (.iinc 5 1, 3) := by decide +kernel
theorem s94_52 {v0 v1 v2 v3 v6 : Value} {l1 : Int32} {l2 : Int32} {st : List Value} {im : IM} {rm : RM}  : ev 94 52 [v0, v1, v2, v3, .int l1, .int l2, v6] st im rm = ev 94 55 [v0, v1, v2, v3, .int l1, .int (l2 + nI 1), v6] st (im) (rm) := ev_iinc pm_m94 d94_52 rfl rfl rfl rfl
theorem d94_55 : decode prog_1_method_55_code 55 = .ok (.goto (-52), 3) := by decide +kernel
theorem s94_55 {v0 v1 v2 v3 v4 v5 v6 : Value}  {st : List Value} {im : IM} {rm : RM}  : ev 94 55 [v0, v1, v2, v3, v4, v5, v6] st im rm = ev 94 3 [v0, v1, v2, v3, v4, v5, pm_u] st (im) (rm) := ev_goto pm_m94 d94_55 rfl rfl
theorem d94_58 : decode prog_1_method_55_code 58 = .ok (.iconst 0, 1) := by decide +kernel
theorem s94_58 {v0 v1 v2 v3 v4 v5 v6 : Value}  {st : List Value} {im : IM} {rm : RM}  : ev 94 58 [v0, v1, v2, v3, v4, v5, v6] st im rm = ev 94 59 [v0, v1, v2, v3, v4, v5, v6] (.int (nI 0) :: st) (im) (rm) := ev_iconst pm_m94 d94_58 rfl rfl
theorem d94_59 : decode prog_1_method_55_code 59 = .ok (.ireturn, 1) := by decide +kernel
theorem s94_59 {v0 v1 v2 v3 v4 v5 v6 : Value} {x : Int32} {im : IM} {rm : RM} (hx : x = 0 ∨ x = 1) : ev 94 59 [v0, v1, v2, v3, v4, v5, v6] [.int x] im rm = some (some (.int x), im, rm) := ev_zreturn pm_m94 d94_59 rfl hx
theorem d95_0 : decode prog_1_method_56_code 0 = .ok (.iconst 0, 1) := by decide +kernel
theorem s95_0 {v0 v1 v2 v3 : Value}  {st : List Value} {im : IM} {rm : RM}  : ev 95 0 [v0, v1, v2, v3] st im rm = ev 95 1 [v0, v1, v2, v3] (.int (nI 0) :: st) (im) (rm) := ev_iconst pm_m95 d95_0 rfl rfl
theorem d95_1 : decode prog_1_method_56_code 1 = .ok (.istore_n 2, 1) := by decide +kernel
theorem s95_1 {v0 v2 v3 : Value} {l1 : Int32} {x2 : Int32} {st : List Value} {im : IM} {rm : RM}  : ev 95 1 [v0, .int l1, v2, v3] (.int x2 :: st) im rm = ev 95 2 [v0, .int l1, .int x2, v3] st (im) (rm) := ev_istore_n pm_m95 d95_1 (Nat.le_of_ble_eq_true rfl) rfl rfl
theorem d95_2 : decode prog_1_method_56_code 2 = .ok (.iconst 0, 1) := by decide +kernel
theorem s95_2 {v0 v1 v2 v3 : Value}  {st : List Value} {im : IM} {rm : RM}  : ev 95 2 [v0, v1, v2, v3] st im rm = ev 95 3 [v0, v1, v2, v3] (.int (nI 0) :: st) (im) (rm) := ev_iconst pm_m95 d95_2 rfl rfl
theorem d95_3 : decode prog_1_method_56_code 3 = .ok (.istore_n 3, 1) := by decide +kernel
theorem s95_3 {v0 v1 v3 : Value} {l1 : Int32} {x2 : Int32} {st : List Value} {im : IM} {rm : RM}  : ev 95 3 [v0, v1, .int l1, v3] (.int x2 :: st) im rm = ev 95 4 [v0, v1, .int l1, .int x2] st (im) (rm) := ev_istore_n pm_m95 d95_3 (Nat.le_of_ble_eq_true rfl) rfl rfl
theorem d95_4 : decode prog_1_method_56_code 4 = .ok (.iload_n 3, 1) := by decide +kernel
theorem s95_4 {v0 v1 v2 : Value} {l1 : Int32} {st : List Value} {im : IM} {rm : RM}  : ev 95 4 [v0, v1, v2, .int l1] st im rm = ev 95 5 [v0, v1, v2, .int l1] (.int l1 :: st) (im) (rm) := ev_iload_n pm_m95 d95_4 rfl rfl
theorem d95_5 : decode prog_1_method_56_code 5 = .ok (.iconst 4, 1) := by decide +kernel
theorem s95_5 {v0 v1 v2 v3 : Value}  {st : List Value} {im : IM} {rm : RM}  : ev 95 5 [v0, v1, v2, v3] st im rm = ev 95 6 [v0, v1, v2, v3] (.int (nI 4) :: st) (im) (rm) := ev_iconst pm_m95 d95_5 rfl rfl
theorem d95_6 : decode prog_1_method_56_code 6 = .ok (.if_icmp .ge 24, 3) := by decide +kernel
theorem s95_6 {v0 v1 v2 v3 : Value} {x : Int32} {y : Int32} {st : List Value} {im : IM} {rm : RM} : ev 95 6 [v0, v1, v2, v3] (.int y :: .int x :: st) im rm = if y ≤ x then ev 95 30 [pm_u, pm_u, v2, pm_u] st im rm else ev 95 9 [v0, v1, v2, v3] st im rm := ev_icmp_ge pm_m95 d95_6 rfl rfl rfl
theorem d95_9 : decode prog_1_method_56_code 9 = .ok (.aload_n 0, 1) := by decide +kernel
theorem s95_9 {v1 v2 v3 : Value} {l1 : Nat} {st : List Value} {im : IM} {rm : RM}  : ev 95 9 [.ref l1, v1, v2, v3] st im rm = ev 95 10 [.ref l1, v1, v2, v3] (.ref l1 :: st) (im) (rm) := ev_aload_n pm_m95 d95_9 rfl rfl
theorem d95_10 : decode prog_1_method_56_code 10 = .ok (.iload_n 3, 1) := by decide +kernel
theorem s95_10 {v0 v1 v2 : Value} {l1 : Int32} {st : List Value} {im : IM} {rm : RM}  : ev 95 10 [v0, v1, v2, .int l1] st im rm = ev 95 11 [v0, v1, v2, .int l1] (.int l1 :: st) (im) (rm) := ev_iload_n pm_m95 d95_10 rfl rfl
theorem d95_11 : decode prog_1_method_56_code 11 = .ok (.iload_n 1, 1) := by decide +kernel
theorem s95_11 {v0 v2 v3 : Value} {l1 : Int32} {st : List Value} {im : IM} {rm : RM}  : ev 95 11 [v0, .int l1, v2, v3] st im rm = ev 95 12 [v0, .int l1, v2, v3] (.int l1 :: st) (im) (rm) := ev_iload_n pm_m95 d95_11 rfl rfl
theorem d95_12 : decode prog_1_method_56_code 12 = .ok (.invokevirtual 243, 3) := by decide +kernel
theorem s95_12 {v0 v1 v2 v3 : Value} {a : Nat} {p1 : Int32} {p2 : Int32} {im : IM} {rm : RM} (hk : kd a = 17) : ev 95 12 [v0, v1, v2, v3] [.int p2, .int p1, .ref a] im rm = (ev 93 0 [.ref a, .int p1, .int p2, pm_u, pm_u, pm_u, pm_u, pm_u, pm_u, pm_u] [] im rm).bind (fun r => ev 95 15 [v0, v1, v2, v3] (r.1.toList ++ []) r.2.1 r.2.2) := ev_callV pm_m95 d95_12 l7_243 rfl pm_m93 (by decide) hk rfl ⟨rfl, rfl⟩ rfl rfl
theorem d95_15 : decode prog_1_method_56_code 15 = .ok (.ifCond .ne 9, 3) := by decide +kernel
theorem s95_15 {v0 v1 v2 v3 : Value} {x : Int32} {st : List Value} {im : IM} {rm : RM} : ev 95 15 [v0, v1, v2, v3] (.int x :: st) im rm = if x = nI 0 then ev 95 18 [v0, v1, v2, v3] st im rm else ev 95 24 [v0, v1, v2, v3] st im rm := ev_if_ne (y := 0) pm_m95 d95_15 rfl rfl rfl
theorem d95_18 : decode prog_1_method_56_code 18 = .ok (.iload_n 2, 1) := by decide +kernel
theorem s95_18 {v0 v1 v3 : Value} {l1 : Int32} {st : List Value} {im : IM} {rm : RM}  : ev 95 18 [v0, v1, .int l1, v3] st im rm = ev 95 19 [v0, v1, .int l1, v3] (.int l1 :: st) (im) (rm) := ev_iload_n pm_m95 d95_18 rfl rfl
theorem d95_19 : decode prog_1_method_56_code 19 = .ok (.iconst 1, 1) := by decide +kernel
theorem s95_19 {v0 v1 v2 v3 : Value}  {st : List Value} {im : IM} {rm : RM}  : ev 95 19 [v0, v1, v2, v3] st im rm = ev 95 20 [v0, v1, v2, v3] (.int (nI 1) :: st) (im) (rm) := ev_iconst pm_m95 d95_19 rfl rfl
theorem d95_20 : decode prog_1_method_56_code 20 = .ok (.iload_n 3, 1) := by decide +kernel
theorem s95_20 {v0 v1 v2 : Value} {l1 : Int32} {st : List Value} {im : IM} {rm : RM}  : ev 95 20 [v0, v1, v2, .int l1] st im rm = ev 95 21 [v0, v1, v2, .int l1] (.int l1 :: st) (im) (rm) := ev_iload_n pm_m95 d95_20 rfl rfl
theorem d95_21 : decode prog_1_method_56_code 21 = .ok (.ishl, 1) := by decide +kernel
theorem s95_21 {v0 v1 v2 v3 : Value} {x : Int32} {y : Int32} {st : List Value} {im : IM} {rm : RM}  : ev 95 21 [v0, v1, v2, v3] (.int y :: .int x :: st) im rm = ev 95 22 [v0, v1, v2, v3] (.int (x <<< (y &&& 31)) :: st) (im) (rm) := ev_ishl pm_m95 d95_21 rfl
theorem d95_22 : decode prog_1_method_56_code 22 = .ok (.ior, 1) := by decide +kernel
theorem s95_22 {v0 v1 v2 v3 : Value} {x : Int32} {y : Int32} {st : List Value} {im : IM} {rm : RM}  : ev 95 22 [v0, v1, v2, v3] (.int y :: .int x :: st) im rm = ev 95 23 [v0, v1, v2, v3] (.int (x ||| y) :: st) (im) (rm) := ev_ior pm_m95 d95_22 rfl
theorem d95_23 : decode prog_1_method_56_code 23 = .ok (.istore_n 2, 1) := by decide +kernel
theorem s95_23 {v0 v2 v3 : Value} {l1 : Int32} {x2 : Int32} {st : List Value} {im : IM} {rm : RM}  : ev 95 23 [v0, .int l1, v2, v3] (.int x2 :: st) im rm = ev 95 24 [v0, .int l1, .int x2, v3] st (im) (rm) := ev_istore_n pm_m95 d95_23 (Nat.le_of_ble_eq_true rfl) rfl rfl
theorem d95_24 : decode prog_1_method_56_code 24 = .ok (.iinc 3 1, 3) := by decide +kernel
theorem s95_24 {v0 v1 : Value} {l1 : Int32} {l2 : Int32} {st : List Value} {im : IM} {rm : RM}  : ev 95 24 [v0, v1, .int l1, .int l2] st im rm = ev 95 27 [v0, v1, .int l1, .int (l2 + nI 1)] st (im) (rm) := ev_iinc pm_m95 d95_24 rfl rfl rfl rfl
theorem d95_27 : decode prog_1_method_56_code 27 = .ok (.goto (-23), 3) := by decide +kernel
theorem s95_27 {v0 v1 v2 v3 : Value}  {st : List Value} {im : IM} {rm : RM}  : ev 95 27 [v0, v1, v2, v3] st im rm = ev 95 4 [v0, v1, v2, v3] st (im) (rm) := ev_goto pm_m95 d95_27 rfl rfl
theorem d95_30 : decode prog_1_method_56_code 30 = .ok (.iload_n 2, 1) := by decide +kernel
theorem s95_30 {v0 v1 v3 : Value} {l1 : Int32} {st : List Value} {im : IM} {rm : RM}  : ev 95 30 [v0, v1, .int l1, v3] st im rm = ev 95 31 [v0, v1, .int l1, v3] (.int l1 :: st) (im) (rm) := ev_iload_n pm_m95 d95_30 rfl rfl
theorem d95_31 : decode prog_1_method_56_code 31 = .ok (.ireturn, 1) := by decide +kernel
theorem s95_31 {v0 v1 v2 v3 : Value} {x : Int32} {im : IM} {rm : RM} : ev 95 31 [v0, v1, v2, v3] [.int x] im rm = some (some (.int x), im, rm) := ev_ireturn pm_m95 d95_31 rfl
theorem d96_0 : decode prog_1_method_57_code 0 = .ok (.iconst 4, 1) := by decide +kernel
theorem s96_0 {v0 v1 v2 v3 v4 : Value}  {st : List Value} {im : IM} {rm : RM}  : ev 96 0 [v0, v1, v2, v3, v4] st im rm = ev 96 1 [v0, v1, v2, v3, v4] (.int (nI 4) :: st) (im) (rm) := ev_iconst pm_m96 d96_0 rfl rfl
theorem d96_1 : decode prog_1_method_57_code 1 = .ok (.istore_n 3, 1) := by decide +kernel
theorem s96_1 {v0 v1 v3 v4 : Value} {l1 : Int32} {x2 : Int32} {st : List Value} {im : IM} {rm : RM}  : ev 96 1 [v0, v1, .int l1, v3, v4] (.int x2 :: st) im rm = ev 96 2 [v0, v1, .int l1, .int x2, v4] st (im) (rm) := ev_istore_n pm_m96 d96_1 (Nat.le_of_ble_eq_true rfl) rfl rfl
theorem d96_2 : decode prog_1_method_57_code 2 = .ok (.iconst 3, 1) := by decide +kernel
theorem s96_2 {v0 v1 v2 v3 v4 : Value}  {st : List Value} {im : IM} {rm : RM}  : ev 96 2 [v0, v1, v2, v3, v4] st im rm = ev 96 3 [v0, v1, v2, v3, v4] (.int (nI 3) :: st) (im) (rm) := ev_iconst pm_m96 d96_2 rfl rfl
theorem d96_3 : decode prog_1_method_57_code 3 = .ok (.istore 4, 2) := by decide +kernel
theorem s96_3 {v0 v1 v2 v4 : Value} {l1 : Int32} {x2 : Int32} {st : List Value} {im : IM} {rm : RM}  : ev 96 3 [v0, v1, v2, .int l1, v4] (.int x2 :: st) im rm = ev 96 5 [v0, v1, v2, .int l1, .int x2] st (im) (rm) := ev_istore pm_m96 d96_3 (Nat.le_of_ble_eq_true rfl) rfl rfl
theorem d96_5 : decode prog_1_method_57_code 5 = .ok (.iload 4, 2) := by decide +kernel
theorem s96_5 {v0 v1 v2 v3 : Value} {l1 : Int32} {st : List Value} {im : IM} {rm : RM}  : ev 96 5 [v0, v1, v2, v3, .int l1] st im rm = ev 96 7 [v0, v1, v2, v3, .int l1] (.int l1 :: st) (im) (rm) := ev_iload pm_m96 d96_5 rfl rfl
theorem d96_7 : decode prog_1_method_57_code 7 = .ok (.ifCond .lt 38, 3) := by decide +kernel
theorem s96_7 {v0 v1 v2 v3 v4 : Value} {x : Int32} {st : List Value} {im : IM} {rm : RM} : ev 96 7 [v0, v1, v2, v3, v4] (.int x :: st) im rm = if x < nI 0 then ev 96 45 [pm_u, pm_u, pm_u, v3, pm_u] st im rm else ev 96 10 [v0, v1, v2, v3, v4] st im rm := ev_if_lt (y := 0) pm_m96 d96_7 rfl rfl rfl
theorem d96_10 : decode prog_1_method_57_code 10 = .ok (.iload_n 2, 1) := by decide +kernel
theorem s96_10 {v0 v1 v3 v4 : Value} {l1 : Int32} {st : List Value} {im : IM} {rm : RM}  : ev 96 10 [v0, v1, .int l1, v3, v4] st im rm = ev 96 11 [v0, v1, .int l1, v3, v4] (.int l1 :: st) (im) (rm) := ev_iload_n pm_m96 d96_10 rfl rfl
theorem d96_11 : decode prog_1_method_57_code 11 = .ok (.iload 4, 2) := by decide +kernel
theorem s96_11 {v0 v1 v2 v3 : Value} {l1 : Int32} {st : List Value} {im : IM} {rm : RM}  : ev 96 11 [v0, v1, v2, v3, .int l1] st im rm = ev 96 13 [v0, v1, v2, v3, .int l1] (.int l1 :: st) (im) (rm) := ev_iload pm_m96 d96_11 rfl rfl
theorem d96_13 : decode prog_1_method_57_code 13 = .ok (.ishr, 1) := by decide +kernel
theorem s96_13 {v0 v1 v2 v3 v4 : Value} {x : Int32} {y : Int32} {st : List Value} {im : IM} {rm : RM}  : ev 96 13 [v0, v1, v2, v3, v4] (.int y :: .int x :: st) im rm = ev 96 14 [v0, v1, v2, v3, v4] (.int (x >>> (y &&& 31)) :: st) (im) (rm) := ev_ishr pm_m96 d96_13 rfl
theorem d96_14 : decode prog_1_method_57_code 14 = .ok (.iconst 1, 1) := by decide +kernel
theorem s96_14 {v0 v1 v2 v3 v4 : Value}  {st : List Value} {im : IM} {rm : RM}  : ev 96 14 [v0, v1, v2, v3, v4] st im rm = ev 96 15 [v0, v1, v2, v3, v4] (.int (nI 1) :: st) (im) (rm) := ev_iconst pm_m96 d96_14 rfl rfl
theorem d96_15 : decode prog_1_method_57_code 15 = .ok (.iand, 1) := by decide +kernel
theorem s96_15 {v0 v1 v2 v3 v4 : Value} {x : Int32} {y : Int32} {st : List Value} {im : IM} {rm : RM}  : ev 96 15 [v0, v1, v2, v3, v4] (.int y :: .int x :: st) im rm = ev 96 16 [v0, v1, v2, v3, v4] (.int (x &&& y) :: st) (im) (rm) := ev_iand pm_m96 d96_15 rfl
theorem d96_16 : decode prog_1_method_57_code 16 = .ok (.iconst 1, 1) := by decide +kernel
theorem s96_16 {v0 v1 v2 v3 v4 : Value}  {st : List Value} {im : IM} {rm : RM}  : ev 96 16 [v0, v1, v2, v3, v4] st im rm = ev 96 17 [v0, v1, v2, v3, v4] (.int (nI 1) :: st) (im) (rm) := ev_iconst pm_m96 d96_16 rfl rfl
theorem d96_17 : decode prog_1_method_57_code 17 = .ok (.if_icmp .ne 22, 3) := by decide +kernel
theorem s96_17 {v0 v1 v2 v3 v4 : Value} {x : Int32} {y : Int32} {st : List Value} {im : IM} {rm : RM} : ev 96 17 [v0, v1, v2, v3, v4] (.int y :: .int x :: st) im rm = if x = y then ev 96 20 [v0, v1, v2, v3, v4] st im rm else ev 96 39 [v0, v1, v2, v3, v4] st im rm := ev_icmp_ne pm_m96 d96_17 rfl rfl rfl
theorem d96_20 : decode prog_1_method_57_code 20 = .ok (.aload_n 0, 1) := by decide +kernel
theorem s96_20 {v1 v2 v3 v4 : Value} {l1 : Nat} {st : List Value} {im : IM} {rm : RM}  : ev 96 20 [.ref l1, v1, v2, v3, v4] st im rm = ev 96 21 [.ref l1, v1, v2, v3, v4] (.ref l1 :: st) (im) (rm) := ev_aload_n pm_m96 d96_20 rfl rfl
theorem d96_21 : decode prog_1_method_57_code 21 = .ok (.iload_n 1, 1) := by decide +kernel
theorem s96_21 {v0 v2 v3 v4 : Value} {l1 : Int32} {st : List Value} {im : IM} {rm : RM}  : ev 96 21 [v0, .int l1, v2, v3, v4] st im rm = ev 96 22 [v0, .int l1, v2, v3, v4] (.int l1 :: st) (im) (rm) := ev_iload_n pm_m96 d96_21 rfl rfl
theorem d96_22 : decode prog_1_method_57_code 22 = .ok (.iload 4, 2) := by decide +kernel
theorem s96_22 {v0 v1 v2 v3 : Value} {l1 : Int32} {st : List Value} {im : IM} {rm : RM}  : ev 96 22 [v0, v1, v2, v3, .int l1] st im rm = ev 96 24 [v0, v1, v2, v3, .int l1] (.int l1 :: st) (im) (rm) := ev_iload pm_m96 d96_22 rfl rfl
theorem d96_24 : decode prog_1_method_57_code 24 = .ok (.invokevirtual 270, 3) := by decide +kernel
theorem s96_24 {v0 v1 v2 v3 v4 : Value} {a : Nat} {p1 : Int32} {p2 : Int32} {im : IM} {rm : RM} (hk : kd a = 17) : ev 96 24 [v0, v1, v2, v3, v4] [.int p2, .int p1, .ref a] im rm = (ev 97 0 [.ref a, .int p1, .int p2] [] im rm).bind (fun r => ev 96 27 [v0, v1, v2, v3, v4] (r.1.toList ++ []) r.2.1 r.2.2) := ev_callV pm_m96 d96_24 l7_270 rfl pm_m97 (by decide) hk rfl ⟨rfl, rfl⟩ rfl rfl
theorem d96_27 : decode prog_1_method_57_code 27 = .ok (.aload_n 0, 1) := by decide +kernel
theorem s96_27 {v1 v2 v3 v4 : Value} {l1 : Nat} {st : List Value} {im : IM} {rm : RM}  : ev 96 27 [.ref l1, v1, v2, v3, v4] st im rm = ev 96 28 [.ref l1, v1, v2, v3, v4] (.ref l1 :: st) (im) (rm) := ev_aload_n pm_m96 d96_27 rfl rfl
theorem d96_28 : decode prog_1_method_57_code 28 = .ok (.iload_n 1, 1) := by decide +kernel
theorem s96_28 {v0 v2 v3 v4 : Value} {l1 : Int32} {st : List Value} {im : IM} {rm : RM}  : ev 96 28 [v0, .int l1, v2, v3, v4] st im rm = ev 96 29 [v0, .int l1, v2, v3, v4] (.int l1 :: st) (im) (rm) := ev_iload_n pm_m96 d96_28 rfl rfl
theorem d96_29 : decode prog_1_method_57_code 29 = .ok (.iload_n 3, 1) := by decide +kernel
theorem s96_29 {v0 v1 v2 v4 : Value} {l1 : Int32} {st : List Value} {im : IM} {rm : RM}  : ev 96 29 [v0, v1, v2, .int l1, v4] st im rm = ev 96 30 [v0, v1, v2, .int l1, v4] (.int l1 :: st) (im) (rm) := ev_iload_n pm_m96 d96_29 rfl rfl
theorem d96_30 : decode prog_1_method_57_code 30 = .ok (.invokevirtual 270, 3) := by decide +kernel
theorem s96_30 {v0 v1 v2 v3 v4 : Value} {a : Nat} {p1 : Int32} {p2 : Int32} {r3 : Int32} {im : IM} {rm : RM} (hk : kd a = 17) : ev 96 30 [v0, v1, v2, v3, v4] [.int p2, .int p1, .ref a, .int r3] im rm = (ev 97 0 [.ref a, .int p1, .int p2] [] im rm).bind (fun r => ev 96 33 [v0, v1, v2, v3, v4] (r.1.toList ++ [.int r3]) r.2.1 r.2.2) := ev_callV pm_m96 d96_30 l7_270 rfl pm_m97 (by decide) hk rfl ⟨rfl, rfl⟩ rfl rfl
theorem d96_33 : decode prog_1_method_57_code 33 = .ok (.if_icmp .gt 6, 3) := by decide +kernel
theorem s96_33 {v0 v1 v2 v3 v4 : Value} {x : Int32} {y : Int32} {st : List Value} {im : IM} {rm : RM} : ev 96 33 [v0, v1, v2, v3, v4] (.int y :: .int x :: st) im rm = if y < x then ev 96 39 [v0, v1, v2, v3, v4] st im rm else ev 96 36 [v0, v1, v2, v3, v4] st im rm := ev_icmp_gt pm_m96 d96_33 rfl rfl rfl
theorem d96_36 : decode prog_1_method_57_code 36 = .ok (.iload 4, 2) := by decide +kernel
theorem s96_36 {v0 v1 v2 v3 : Value} {l1 : Int32} {st : List Value} {im : IM} {rm : RM}  : ev 96 36 [v0, v1, v2, v3, .int l1] st im rm = ev 96 38 [v0, v1, v2, v3, .int l1] (.int l1 :: st) (im) (rm) := ev_iload pm_m96 d96_36 rfl rfl
theorem d96_38 : decode prog_1_method_57_code 38 = .ok (.istore_n 3, 1) := by decide +kernel
theorem s96_38 {v0 v1 v3 v4 : Value} {l1 : Int32} {x2 : Int32} {st : List Value} {im : IM} {rm : RM}  : ev 96 38 [v0, v1, .int l1, v3, v4] (.int x2 :: st) im rm = ev 96 39 [v0, v1, .int l1, .int x2, v4] st (im) (rm) := ev_istore_n pm_m96 d96_38 (Nat.le_of_ble_eq_true rfl) rfl rfl
theorem d96_39 : decode prog_1_method_57_code 39 = .ok (.iinc 4 (-1), 3) := by decide +kernel
theorem s96_39 {v0 v1 v2 : Value} {l1 : Int32} {l2 : Int32} {st : List Value} {im : IM} {rm : RM}  : ev 96 39 [v0, v1, v2, .int l1, .int l2] st im rm = ev 96 42 [v0, v1, v2, .int l1, .int (l2 + (-1 : Int32))] st (im) (rm) := ev_iinc pm_m96 d96_39 rfl rfl rfl rfl
theorem d96_42 : decode prog_1_method_57_code 42 = .ok (.goto (-37), 3) := by decide +kernel
theorem s96_42 {v0 v1 v2 v3 v4 : Value}  {st : List Value} {im : IM} {rm : RM}  : ev 96 42 [v0, v1, v2, v3, v4] st im rm = ev 96 5 [v0, v1, v2, v3, v4] st (im) (rm) := ev_goto pm_m96 d96_42 rfl rfl
theorem d96_45 : decode prog_1_method_57_code 45 = .ok (.iload_n 3, 1) := by decide +kernel
theorem s96_45 {v0 v1 v2 v4 : Value} {l1 : Int32} {st : List Value} {im : IM} {rm : RM}  : ev 96 45 [v0, v1, v2, .int l1, v4] st im rm = ev 96 46 [v0, v1, v2, .int l1, v4] (.int l1 :: st) (im) (rm) := ev_iload_n pm_m96 d96_45 rfl rfl
theorem d96_46 : decode prog_1_method_57_code 46 = .ok (.ireturn, 1) := by decide +kernel
theorem s96_46 {v0 v1 v2 v3 v4 : Value} {x : Int32} {im : IM} {rm : RM} : ev 96 46 [v0, v1, v2, v3, v4] [.int x] im rm = some (some (.int x), im, rm) := ev_ireturn pm_m96 d96_46 rfl
theorem d97_0 : decode prog_1_method_58_code 0 = .ok (.iload_n 2, 1) := by decide +kernel
theorem s97_0 {v0 v1 : Value} {l1 : Int32} {st : List Value} {im : IM} {rm : RM}  : ev 97 0 [v0, v1, .int l1] st im rm = ev 97 1 [v0, v1, .int l1] (.int l1 :: st) (im) (rm) := ev_iload_n pm_m97 d97_0 rfl rfl
theorem d97_1 : decode prog_1_method_58_code 1 = .ok (.iconst 4, 1) := by decide +kernel
theorem s97_1 {v0 v1 v2 : Value}  {st : List Value} {im : IM} {rm : RM}  : ev 97 1 [v0, v1, v2] st im rm = ev 97 2 [v0, v1, v2] (.int (nI 4) :: st) (im) (rm) := ev_iconst pm_m97 d97_1 rfl rfl
theorem d97_2 : decode prog_1_method_58_code 2 = .ok (.if_icmp .ne 10, 3) := by decide +kernel
theorem s97_2 {v0 v1 v2 : Value} {x : Int32} {y : Int32} {st : List Value} {im : IM} {rm : RM} : ev 97 2 [v0, v1, v2] (.int y :: .int x :: st) im rm = if x = y then ev 97 5 [v0, v1, v2] st im rm else ev 97 12 [v0, v1, v2] st im rm := ev_icmp_ne pm_m97 d97_2 rfl rfl rfl
theorem d97_5 : decode prog_1_method_58_code 5 = .ok (.aload_n 0, 1) := by decide +kernel
theorem s97_5 {v1 v2 : Value} {l1 : Nat} {st : List Value} {im : IM} {rm : RM}  : ev 97 5 [.ref l1, v1, v2] st im rm = ev 97 6 [.ref l1, v1, v2] (.ref l1 :: st) (im) (rm) := ev_aload_n pm_m97 d97_5 rfl rfl
theorem d97_6 : decode prog_1_method_58_code 6 = .ok (.getfield 43, 3) := by decide +kernel
theorem s97_6 {v0 v1 v2 : Value} {a : Nat} {st : List Value} {im : IM} {rm : RM} (hk : kd a = 17) : ev 97 6 [v0, v1, v2] (.ref a :: st) im rm = ev 97 9 [v0, v1, v2] (pm_ro (rm a 5) :: st) (im) (rm) := ev_getR pm_m97 d97_6 f7_43 rfl hk rfl
theorem d97_9 : decode prog_1_method_58_code 9 = .ok (.iconst 2, 1) := by decide +kernel
theorem s97_9 {v0 v1 v2 : Value}  {st : List Value} {im : IM} {rm : RM}  : ev 97 9 [v0, v1, v2] st im rm = ev 97 10 [v0, v1, v2] (.int (nI 2) :: st) (im) (rm) := ev_iconst pm_m97 d97_9 rfl rfl
theorem d97_10 : decode prog_1_method_58_code 10 = .ok (.iaload, 1) := by decide +kernel
theorem s97_10 {v0 v1 v2 : Value} {a : Nat} {i : Int32} {st : List Value} {im : IM} {rm : RM} (hk : kd a = 0) (hi : pm_in i (ln a) = true) : ev 97 10 [v0, v1, v2] (.int i :: .ref a :: st) im rm = ev 97 11 [v0, v1, v2] (.int (im a i.toNatClampNeg) :: st) (im) (rm) := ev_iald pm_m97 d97_10 hk hi rfl
theorem d97_11 : decode prog_1_method_58_code 11 = .ok (.ireturn, 1) := by decide +kernel
theorem s97_11 {v0 v1 v2 : Value} {x : Int32} {im : IM} {rm : RM} : ev 97 11 [v0, v1, v2] [.int x] im rm = some (some (.int x), im, rm) := ev_ireturn pm_m97 d97_11 rfl
theorem d97_12 : decode prog_1_method_58_code 12 = .ok (.iload_n 2, 1) := by decide +kernel
theorem s97_12 {v0 v1 : Value} {l1 : Int32} {st : List Value} {im : IM} {rm : RM}  : ev 97 12 [v0, v1, .int l1] st im rm = ev 97 13 [v0, v1, .int l1] (.int l1 :: st) (im) (rm) := ev_iload_n pm_m97 d97_12 rfl rfl
theorem d97_13 : decode prog_1_method_58_code 13 = .ok (.iload_n 1, 1) := by decide +kernel
theorem s97_13 {v0 v2 : Value} {l1 : Int32} {st : List Value} {im : IM} {rm : RM}  : ev 97 13 [v0, .int l1, v2] st im rm = ev 97 14 [v0, .int l1, v2] (.int l1 :: st) (im) (rm) := ev_iload_n pm_m97 d97_13 rfl rfl
theorem d97_14 : decode prog_1_method_58_code 14 = .ok (.if_icmp .ne 5, 3) := by decide +kernel
theorem s97_14 {v0 v1 v2 : Value} {x : Int32} {y : Int32} {st : List Value} {im : IM} {rm : RM} : ev 97 14 [v0, v1, v2] (.int y :: .int x :: st) im rm = if x = y then ev 97 17 [v0, v1, v2] st im rm else ev 97 19 [v0, v1, v2] st im rm := ev_icmp_ne pm_m97 d97_14 rfl rfl rfl
theorem d97_17 : decode prog_1_method_58_code 17 = .ok (.iconst 0, 1) := by decide +kernel
theorem s97_17 {v0 v1 v2 : Value}  {st : List Value} {im : IM} {rm : RM}  : ev 97 17 [v0, v1, v2] st im rm = ev 97 18 [v0, v1, v2] (.int (nI 0) :: st) (im) (rm) := ev_iconst pm_m97 d97_17 rfl rfl
theorem d97_18 : decode prog_1_method_58_code 18 = .ok (.ireturn, 1) := by decide +kernel
theorem s97_18 {v0 v1 v2 : Value} {x : Int32} {im : IM} {rm : RM} : ev 97 18 [v0, v1, v2] [.int x] im rm = some (some (.int x), im, rm) := ev_ireturn pm_m97 d97_18 rfl
theorem d97_19 : decode prog_1_method_58_code 19 = .ok (.aload_n 0, 1) := by decide +kernel
theorem s97_19 {v1 v2 : Value} {l1 : Nat} {st : List Value} {im : IM} {rm : RM}  : ev 97 19 [.ref l1, v1, v2] st im rm = ev 97 20 [.ref l1, v1, v2] (.ref l1 :: st) (im) (rm) := ev_aload_n pm_m97 d97_19 rfl rfl
theorem d97_20 : decode prog_1_method_58_code 20 = .ok (.getfield 49, 3) := by decide +kernel
theorem s97_20 {v0 v1 v2 : Value} {a : Nat} {st : List Value} {im : IM} {rm : RM} (hk : kd a = 17) : ev 97 20 [v0, v1, v2] (.ref a :: st) im rm = ev 97 23 [v0, v1, v2] (pm_ro (rm a 7) :: st) (im) (rm) := ev_getR pm_m97 d97_20 f7_49 rfl hk rfl
theorem d97_23 : decode prog_1_method_58_code 23 = .ok (.iload_n 2, 1) := by decide +kernel
theorem s97_23 {v0 v1 : Value} {l1 : Int32} {st : List Value} {im : IM} {rm : RM}  : ev 97 23 [v0, v1, .int l1] st im rm = ev 97 24 [v0, v1, .int l1] (.int l1 :: st) (im) (rm) := ev_iload_n pm_m97 d97_23 rfl rfl
theorem d97_24 : decode prog_1_method_58_code 24 = .ok (.iaload, 1) := by decide +kernel
theorem s97_24 {v0 v1 v2 : Value} {a : Nat} {i : Int32} {st : List Value} {im : IM} {rm : RM} (hk : kd a = 0) (hi : pm_in i (ln a) = true) : ev 97 24 [v0, v1, v2] (.int i :: .ref a :: st) im rm = ev 97 25 [v0, v1, v2] (.int (im a i.toNatClampNeg) :: st) (im) (rm) := ev_iald pm_m97 d97_24 hk hi rfl
theorem d97_25 : decode prog_1_method_58_code 25 = .ok (.iconst 0, 1) := by decide +kernel
theorem s97_25 {v0 v1 v2 : Value}  {st : List Value} {im : IM} {rm : RM}  : ev 97 25 [v0, v1, v2] st im rm = ev 97 26 [v0, v1, v2] (.int (nI 0) :: st) (im) (rm) := ev_iconst pm_m97 d97_25 rfl rfl
theorem d97_26 : decode prog_1_method_58_code 26 = .ok (.aload_n 0, 1) := by decide +kernel
theorem s97_26 {v1 v2 : Value} {l1 : Nat} {st : List Value} {im : IM} {rm : RM}  : ev 97 26 [.ref l1, v1, v2] st im rm = ev 97 27 [.ref l1, v1, v2] (.ref l1 :: st) (im) (rm) := ev_aload_n pm_m97 d97_26 rfl rfl
theorem d97_27 : decode prog_1_method_58_code 27 = .ok (.iload_n 2, 1) := by decide +kernel
theorem s97_27 {v0 v1 : Value} {l1 : Int32} {st : List Value} {im : IM} {rm : RM}  : ev 97 27 [v0, v1, .int l1] st im rm = ev 97 28 [v0, v1, .int l1] (.int l1 :: st) (im) (rm) := ev_iload_n pm_m97 d97_27 rfl rfl
theorem d97_28 : decode prog_1_method_58_code 28 = .ok (.invokevirtual 261, 3) := by decide +kernel
theorem s97_28 {v0 v1 v2 : Value} {a : Nat} {p1 : Int32} {r2 : Int32} {r3 : Int32} {im : IM} {rm : RM} (hk : kd a = 17) : ev 97 28 [v0, v1, v2] [.int p1, .ref a, .int r2, .int r3] im rm = (ev 83 0 [.ref a, .int p1, pm_u, pm_u] [] im rm).bind (fun r => ev 97 31 [v0, v1, v2] (r.1.toList ++ [.int r2, .int r3]) r.2.1 r.2.2) := ev_callV pm_m97 d97_28 l7_261 rfl pm_m83 (by decide) hk rfl ⟨rfl, rfl⟩ rfl rfl
theorem d97_31 : decode prog_1_method_58_code 31 = .ok (.aload_n 0, 1) := by decide +kernel
theorem s97_31 {v1 v2 : Value} {l1 : Nat} {st : List Value} {im : IM} {rm : RM}  : ev 97 31 [.ref l1, v1, v2] st im rm = ev 97 32 [.ref l1, v1, v2] (.ref l1 :: st) (im) (rm) := ev_aload_n pm_m97 d97_31 rfl rfl
theorem d97_32 : decode prog_1_method_58_code 32 = .ok (.iload_n 1, 1) := by decide +kernel
theorem s97_32 {v0 v2 : Value} {l1 : Int32} {st : List Value} {im : IM} {rm : RM}  : ev 97 32 [v0, .int l1, v2] st im rm = ev 97 33 [v0, .int l1, v2] (.int l1 :: st) (im) (rm) := ev_iload_n pm_m97 d97_32 rfl rfl
theorem d97_33 : decode prog_1_method_58_code 33 = .ok (.invokevirtual 261, 3) := by decide +kernel
theorem s97_33 {v0 v1 v2 : Value} {a : Nat} {p1 : Int32} {r2 : Int32} {r3 : Int32} {r4 : Int32} {im : IM} {rm : RM} (hk : kd a = 17) : ev 97 33 [v0, v1, v2] [.int p1, .ref a, .int r2, .int r3, .int r4] im rm = (ev 83 0 [.ref a, .int p1, pm_u, pm_u] [] im rm).bind (fun r => ev 97 36 [v0, v1, v2] (r.1.toList ++ [.int r2, .int r3, .int r4]) r.2.1 r.2.2) := ev_callV pm_m97 d97_33 l7_261 rfl pm_m83 (by decide) hk rfl ⟨rfl, rfl⟩ rfl rfl
theorem d97_36 : decode prog_1_method_58_code 36 = .ok (.isub, 1) := by decide +kernel
theorem s97_36 {v0 v1 v2 : Value} {x : Int32} {y : Int32} {st : List Value} {im : IM} {rm : RM}  : ev 97 36 [v0, v1, v2] (.int y :: .int x :: st) im rm = ev 97 37 [v0, v1, v2] (.int (x - y) :: st) (im) (rm) := ev_isub pm_m97 d97_36 rfl
theorem d97_37 : decode prog_1_method_58_code 37 = .ok (.invokestatic 379, 3) := by decide +kernel
theorem s97_37 {v0 v1 v2 : Value} {p1 : Int32} {p2 : Int32} {r3 : Int32} {im : IM} {rm : RM}  : ev 97 37 [v0, v1, v2] [.int p2, .int p1, .int r3] im rm = (ev 175 0 [.int p1, .int p2] [] im rm).bind (fun r => ev 97 40 [v0, v1, v2] (r.1.toList ++ [.int r3]) r.2.1 r.2.2) := ev_callS pm_m97 d97_37 (by decide) l7_379 rfl pm_m175 rfl ⟨rfl, rfl⟩ rfl rfl
theorem d97_40 : decode prog_1_method_58_code 40 = .ok (.iadd, 1) := by decide +kernel
theorem s97_40 {v0 v1 v2 : Value} {x : Int32} {y : Int32} {st : List Value} {im : IM} {rm : RM}  : ev 97 40 [v0, v1, v2] (.int y :: .int x :: st) im rm = ev 97 41 [v0, v1, v2] (.int (x + y) :: st) (im) (rm) := ev_iadd pm_m97 d97_40 rfl
theorem d97_41 : decode prog_1_method_58_code 41 = .ok (.ireturn, 1) := by decide +kernel
theorem s97_41 {v0 v1 v2 : Value} {x : Int32} {im : IM} {rm : RM} : ev 97 41 [v0, v1, v2] [.int x] im rm = some (some (.int x), im, rm) := ev_ireturn pm_m97 d97_41 rfl
theorem d98_0 : decode prog_1_method_59_code 0 = .ok (.iconst 0, 1) := by decide +kernel
theorem s98_0 {v0 v1 v2 v3 : Value}  {st : List Value} {im : IM} {rm : RM}  : ev 98 0 [v0, v1, v2, v3] st im rm = ev 98 1 [v0, v1, v2, v3] (.int (nI 0) :: st) (im) (rm) := ev_iconst pm_m98 d98_0 rfl rfl
theorem d98_1 : decode prog_1_method_59_code 1 = .ok (.istore_n 2, 1) := by decide +kernel
theorem s98_1 {v0 v2 v3 : Value} {l1 : Int32} {x2 : Int32} {st : List Value} {im : IM} {rm : RM}  : ev 98 1 [v0, .int l1, v2, v3] (.int x2 :: st) im rm = ev 98 2 [v0, .int l1, .int x2, pm_u] st (im) (rm) := ev_istore_n pm_m98 d98_1 (Nat.le_of_ble_eq_true rfl) rfl rfl
theorem d98_2 : decode prog_1_method_59_code 2 = .ok (.iload_n 2, 1) := by decide +kernel
theorem s98_2 {v0 v1 v3 : Value} {l1 : Int32} {st : List Value} {im : IM} {rm : RM}  : ev 98 2 [v0, v1, .int l1, v3] st im rm = ev 98 3 [v0, v1, .int l1, v3] (.int l1 :: st) (im) (rm) := ev_iload_n pm_m98 d98_2 rfl rfl
theorem d98_3 : decode prog_1_method_59_code 3 = .ok (.bipush 6, 2) := by decide +kernel
theorem s98_3 {v0 v1 v2 v3 : Value}  {st : List Value} {im : IM} {rm : RM}  : ev 98 3 [v0, v1, v2, v3] st im rm = ev 98 5 [v0, v1, v2, v3] (.int (nI 6) :: st) (im) (rm) := ev_bipush pm_m98 d98_3 rfl rfl
theorem d98_5 : decode prog_1_method_59_code 5 = .ok (.if_icmp .ge 66, 3) := by decide +kernel
theorem s98_5 {v0 v1 v2 v3 : Value} {x : Int32} {y : Int32} {st : List Value} {im : IM} {rm : RM} : ev 98 5 [v0, v1, v2, v3] (.int y :: .int x :: st) im rm = if y ≤ x then ev 98 71 [pm_u, pm_u, pm_u, pm_u] st im rm else ev 98 8 [v0, v1, v2, v3] st im rm := ev_icmp_ge pm_m98 d98_5 rfl rfl rfl
theorem d98_8 : decode prog_1_method_59_code 8 = .ok (.aload_n 0, 1) := by decide +kernel
theorem s98_8 {v1 v2 v3 : Value} {l1 : Nat} {st : List Value} {im : IM} {rm : RM}  : ev 98 8 [.ref l1, v1, v2, v3] st im rm = ev 98 9 [.ref l1, v1, v2, v3] (.ref l1 :: st) (im) (rm) := ev_aload_n pm_m98 d98_8 rfl rfl
theorem d98_9 : decode prog_1_method_59_code 9 = .ok (.getfield 96, 3) := by decide +kernel
theorem s98_9 {v0 v1 v2 v3 : Value} {a : Nat} {st : List Value} {im : IM} {rm : RM} (hk : kd a = 17) : ev 98 9 [v0, v1, v2, v3] (.ref a :: st) im rm = ev 98 12 [v0, v1, v2, v3] (pm_ro (rm a 17) :: st) (im) (rm) := ev_getR pm_m98 d98_9 f7_96 rfl hk rfl
theorem d98_12 : decode prog_1_method_59_code 12 = .ok (.iload_n 2, 1) := by decide +kernel
theorem s98_12 {v0 v1 v3 : Value} {l1 : Int32} {st : List Value} {im : IM} {rm : RM}  : ev 98 12 [v0, v1, .int l1, v3] st im rm = ev 98 13 [v0, v1, .int l1, v3] (.int l1 :: st) (im) (rm) := ev_iload_n pm_m98 d98_12 rfl rfl
theorem d98_13 : decode prog_1_method_59_code 13 = .ok (.iconst 0, 1) := by decide +kernel
theorem s98_13 {v0 v1 v2 v3 : Value}  {st : List Value} {im : IM} {rm : RM}  : ev 98 13 [v0, v1, v2, v3] st im rm = ev 98 14 [v0, v1, v2, v3] (.int (nI 0) :: st) (im) (rm) := ev_iconst pm_m98 d98_13 rfl rfl
theorem d98_14 : decode prog_1_method_59_code 14 = .ok (.iastore, 1) := by decide +kernel
theorem s98_14 {v0 v1 v2 v3 : Value} {a : Nat} {i : Int32} {v : Int32} {st : List Value} {im : IM} {rm : RM} (hk : kd a = 0) (hi : pm_in i (ln a) = true) : ev 98 14 [v0, v1, v2, v3] (.int v :: .int i :: .ref a :: st) im rm = ev 98 15 [v0, v1, v2, v3] st (pm_w2 im a i.toNatClampNeg v) (rm) := ev_iast pm_m98 d98_14 hk hi rfl
theorem d98_15 : decode prog_1_method_59_code 15 = .ok (.iconst 0, 1) := by decide +kernel
theorem s98_15 {v0 v1 v2 v3 : Value}  {st : List Value} {im : IM} {rm : RM}  : ev 98 15 [v0, v1, v2, v3] st im rm = ev 98 16 [v0, v1, v2, v3] (.int (nI 0) :: st) (im) (rm) := ev_iconst pm_m98 d98_15 rfl rfl
theorem d98_16 : decode prog_1_method_59_code 16 = .ok (.istore_n 3, 1) := by decide +kernel
theorem s98_16 {v0 v1 v3 : Value} {l1 : Int32} {x2 : Int32} {st : List Value} {im : IM} {rm : RM}  : ev 98 16 [v0, v1, .int l1, v3] (.int x2 :: st) im rm = ev 98 17 [v0, v1, .int l1, .int x2] st (im) (rm) := ev_istore_n pm_m98 d98_16 (Nat.le_of_ble_eq_true rfl) rfl rfl
theorem d98_17 : decode prog_1_method_59_code 17 = .ok (.iload_n 3, 1) := by decide +kernel
theorem s98_17 {v0 v1 v2 : Value} {l1 : Int32} {st : List Value} {im : IM} {rm : RM}  : ev 98 17 [v0, v1, v2, .int l1] st im rm = ev 98 18 [v0, v1, v2, .int l1] (.int l1 :: st) (im) (rm) := ev_iload_n pm_m98 d98_17 rfl rfl
theorem d98_18 : decode prog_1_method_59_code 18 = .ok (.iconst 4, 1) := by decide +kernel
theorem s98_18 {v0 v1 v2 v3 : Value}  {st : List Value} {im : IM} {rm : RM}  : ev 98 18 [v0, v1, v2, v3] st im rm = ev 98 19 [v0, v1, v2, v3] (.int (nI 4) :: st) (im) (rm) := ev_iconst pm_m98 d98_18 rfl rfl
theorem d98_19 : decode prog_1_method_59_code 19 = .ok (.if_icmp .ge 46, 3) := by decide +kernel
theorem s98_19 {v0 v1 v2 v3 : Value} {x : Int32} {y : Int32} {st : List Value} {im : IM} {rm : RM} : ev 98 19 [v0, v1, v2, v3] (.int y :: .int x :: st) im rm = if y ≤ x then ev 98 65 [v0, v1, v2, pm_u] st im rm else ev 98 22 [v0, v1, v2, v3] st im rm := ev_icmp_ge pm_m98 d98_19 rfl rfl rfl
theorem d98_22 : decode prog_1_method_59_code 22 = .ok (.bipush 100, 2) := by decide +kernel
theorem s98_22 {v0 v1 v2 v3 : Value}  {st : List Value} {im : IM} {rm : RM}  : ev 98 22 [v0, v1, v2, v3] st im rm = ev 98 24 [v0, v1, v2, v3] (.int (nI 100) :: st) (im) (rm) := ev_bipush pm_m98 d98_22 rfl rfl
theorem d98_24 : decode prog_1_method_59_code 24 = .ok (.aload_n 0, 1) := by decide +kernel
theorem s98_24 {v1 v2 v3 : Value} {l1 : Nat} {st : List Value} {im : IM} {rm : RM}  : ev 98 24 [.ref l1, v1, v2, v3] st im rm = ev 98 25 [.ref l1, v1, v2, v3] (.ref l1 :: st) (im) (rm) := ev_aload_n pm_m98 d98_24 rfl rfl
theorem d98_25 : decode prog_1_method_59_code 25 = .ok (.getfield 90, 3) := by decide +kernel
theorem s98_25 {v0 v1 v2 v3 : Value} {a : Nat} {st : List Value} {im : IM} {rm : RM} (hk : kd a = 17) : ev 98 25 [v0, v1, v2, v3] (.ref a :: st) im rm = ev 98 28 [v0, v1, v2, v3] (pm_ro (rm a 15) :: st) (im) (rm) := ev_getR pm_m98 d98_25 f7_90 rfl hk rfl
theorem d98_28 : decode prog_1_method_59_code 28 = .ok (.iload_n 3, 1) := by decide +kernel
theorem s98_28 {v0 v1 v2 : Value} {l1 : Int32} {st : List Value} {im : IM} {rm : RM}  : ev 98 28 [v0, v1, v2, .int l1] st im rm = ev 98 29 [v0, v1, v2, .int l1] (.int l1 :: st) (im) (rm) := ev_iload_n pm_m98 d98_28 rfl rfl
theorem d98_29 : decode prog_1_method_59_code 29 = .ok (.aaload, 1) := by decide +kernel
theorem s98_29 {v0 v1 v2 v3 : Value} {a : Nat} {i : Int32} {st : List Value} {im : IM} {rm : RM} (hk : 2 ≤ kd a ∧ kd a ≤ 5) (hi : pm_in i (ln a) = true) : ev 98 29 [v0, v1, v2, v3] (.int i :: .ref a :: st) im rm = ev 98 30 [v0, v1, v2, v3] (pm_ro (rm a i.toNatClampNeg) :: st) (im) (rm) := ev_aald pm_m98 d98_29 hk hi rfl
theorem d98_30 : decode prog_1_method_59_code 30 = .ok (.iload_n 2, 1) := by decide +kernel
theorem s98_30 {v0 v1 v3 : Value} {l1 : Int32} {st : List Value} {im : IM} {rm : RM}  : ev 98 30 [v0, v1, .int l1, v3] st im rm = ev 98 31 [v0, v1, .int l1, v3] (.int l1 :: st) (im) (rm) := ev_iload_n pm_m98 d98_30 rfl rfl
theorem d98_31 : decode prog_1_method_59_code 31 = .ok (.iaload, 1) := by decide +kernel
theorem s98_31 {v0 v1 v2 v3 : Value} {a : Nat} {i : Int32} {st : List Value} {im : IM} {rm : RM} (hk : kd a = 0) (hi : pm_in i (ln a) = true) : ev 98 31 [v0, v1, v2, v3] (.int i :: .ref a :: st) im rm = ev 98 32 [v0, v1, v2, v3] (.int (im a i.toNatClampNeg) :: st) (im) (rm) := ev_iald pm_m98 d98_31 hk hi rfl
theorem d98_32 : decode prog_1_method_59_code 32 = .ok (.imul, 1) := by decide +kernel
theorem s98_32 {v0 v1 v2 v3 : Value} {x : Int32} {y : Int32} {st : List Value} {im : IM} {rm : RM}  : ev 98 32 [v0, v1, v2, v3] (.int y :: .int x :: st) im rm = ev 98 33 [v0, v1, v2, v3] (.int (x * y) :: st) (im) (rm) := ev_imul pm_m98 d98_32 rfl
theorem d98_33 : decode prog_1_method_59_code 33 = .ok (.iload_n 1, 1) := by decide +kernel
theorem s98_33 {v0 v2 v3 : Value} {l1 : Int32} {st : List Value} {im : IM} {rm : RM}  : ev 98 33 [v0, .int l1, v2, v3] st im rm = ev 98 34 [v0, .int l1, v2, v3] (.int l1 :: st) (im) (rm) := ev_iload_n pm_m98 d98_33 rfl rfl
theorem d98_34 : decode prog_1_method_59_code 34 = .ok (.aload_n 0, 1) := by decide +kernel
theorem s98_34 {v1 v2 v3 : Value} {l1 : Nat} {st : List Value} {im : IM} {rm : RM}  : ev 98 34 [.ref l1, v1, v2, v3] st im rm = ev 98 35 [.ref l1, v1, v2, v3] (.ref l1 :: st) (im) (rm) := ev_aload_n pm_m98 d98_34 rfl rfl
theorem d98_35 : decode prog_1_method_59_code 35 = .ok (.getfield 11, 3) := by decide +kernel
theorem s98_35 {v0 v1 v2 v3 : Value} {a : Nat} {st : List Value} {im : IM} {rm : RM} (hk : kd a = 17) : ev 98 35 [v0, v1, v2, v3] (.ref a :: st) im rm = ev 98 38 [v0, v1, v2, v3] (pm_ro (rm a 0) :: st) (im) (rm) := ev_getR pm_m98 d98_35 f7_11 rfl hk rfl
theorem d98_38 : decode prog_1_method_59_code 38 = .ok (.iload_n 2, 1) := by decide +kernel
theorem s98_38 {v0 v1 v3 : Value} {l1 : Int32} {st : List Value} {im : IM} {rm : RM}  : ev 98 38 [v0, v1, .int l1, v3] st im rm = ev 98 39 [v0, v1, .int l1, v3] (.int l1 :: st) (im) (rm) := ev_iload_n pm_m98 d98_38 rfl rfl
theorem d98_39 : decode prog_1_method_59_code 39 = .ok (.aaload, 1) := by decide +kernel
theorem s98_39 {v0 v1 v2 v3 : Value} {a : Nat} {i : Int32} {st : List Value} {im : IM} {rm : RM} (hk : 2 ≤ kd a ∧ kd a ≤ 5) (hi : pm_in i (ln a) = true) : ev 98 39 [v0, v1, v2, v3] (.int i :: .ref a :: st) im rm = ev 98 40 [v0, v1, v2, v3] (pm_ro (rm a i.toNatClampNeg) :: st) (im) (rm) := ev_aald pm_m98 d98_39 hk hi rfl
theorem d98_40 : decode prog_1_method_59_code 40 = .ok (.getfield 120, 3) := by decide +kernel
theorem s98_40 {v0 v1 v2 v3 : Value} {a : Nat} {st : List Value} {im : IM} {rm : RM} (hk : kd a = 10) : ev 98 40 [v0, v1, v2, v3] (.ref a :: st) im rm = ev 98 43 [v0, v1, v2, v3] (.int (im a 2) :: st) (im) (rm) := ev_getI pm_m98 d98_40 f7_120 rfl hk rfl
theorem d98_43 : decode prog_1_method_59_code 43 = .ok (.imul, 1) := by decide +kernel
theorem s98_43 {v0 v1 v2 v3 : Value} {x : Int32} {y : Int32} {st : List Value} {im : IM} {rm : RM}  : ev 98 43 [v0, v1, v2, v3] (.int y :: .int x :: st) im rm = ev 98 44 [v0, v1, v2, v3] (.int (x * y) :: st) (im) (rm) := ev_imul pm_m98 d98_43 rfl
theorem d98_44 : decode prog_1_method_59_code 44 = .ok (.if_icmp .le 15, 3) := by decide +kernel
theorem s98_44 {v0 v1 v2 v3 : Value} {x : Int32} {y : Int32} {st : List Value} {im : IM} {rm : RM} : ev 98 44 [v0, v1, v2, v3] (.int y :: .int x :: st) im rm = if x ≤ y then ev 98 59 [v0, v1, v2, v3] st im rm else ev 98 47 [v0, v1, v2, v3] st im rm := ev_icmp_le pm_m98 d98_44 rfl rfl rfl
theorem d98_47 : decode prog_1_method_59_code 47 = .ok (.aload_n 0, 1) := by decide +kernel
theorem s98_47 {v1 v2 v3 : Value} {l1 : Nat} {st : List Value} {im : IM} {rm : RM}  : ev 98 47 [.ref l1, v1, v2, v3] st im rm = ev 98 48 [.ref l1, v1, v2, v3] (.ref l1 :: st) (im) (rm) := ev_aload_n pm_m98 d98_47 rfl rfl
theorem d98_48 : decode prog_1_method_59_code 48 = .ok (.getfield 96, 3) := by decide +kernel
theorem s98_48 {v0 v1 v2 v3 : Value} {a : Nat} {st : List Value} {im : IM} {rm : RM} (hk : kd a = 17) : ev 98 48 [v0, v1, v2, v3] (.ref a :: st) im rm = ev 98 51 [v0, v1, v2, v3] (pm_ro (rm a 17) :: st) (im) (rm) := ev_getR pm_m98 d98_48 f7_96 rfl hk rfl
theorem d98_51 : decode prog_1_method_59_code 51 = .ok (.iload_n 2, 1) := by decide +kernel
theorem s98_51 {v0 v1 v3 : Value} {l1 : Int32} {st : List Value} {im : IM} {rm : RM}  : ev 98 51 [v0, v1, .int l1, v3] st im rm = ev 98 52 [v0, v1, .int l1, v3] (.int l1 :: st) (im) (rm) := ev_iload_n pm_m98 d98_51 rfl rfl
theorem d98_52 : decode prog_1_method_59_code 52 = .ok (.dup2, 1) := by decide +kernel
theorem s98_52 {v0 v1 v2 v3 : Value} {y : Int32} {x : Nat} {st : List Value} {im : IM} {rm : RM}  : ev 98 52 [v0, v1, v2, v3] (.int y :: .ref x :: st) im rm = ev 98 53 [v0, v1, v2, v3] (.int y :: .ref x :: .int y :: .ref x :: st) (im) (rm) := ev_dup2 pm_m98 d98_52 rfl
theorem d98_53 : decode prog_1_method_59_code 53 = .ok (.iaload, 1) := by decide +kernel
theorem s98_53 {v0 v1 v2 v3 : Value} {a : Nat} {i : Int32} {st : List Value} {im : IM} {rm : RM} (hk : kd a = 0) (hi : pm_in i (ln a) = true) : ev 98 53 [v0, v1, v2, v3] (.int i :: .ref a :: st) im rm = ev 98 54 [v0, v1, v2, v3] (.int (im a i.toNatClampNeg) :: st) (im) (rm) := ev_iald pm_m98 d98_53 hk hi rfl
theorem d98_54 : decode prog_1_method_59_code 54 = .ok (.iconst 1, 1) := by decide +kernel
theorem s98_54 {v0 v1 v2 v3 : Value}  {st : List Value} {im : IM} {rm : RM}  : ev 98 54 [v0, v1, v2, v3] st im rm = ev 98 55 [v0, v1, v2, v3] (.int (nI 1) :: st) (im) (rm) := ev_iconst pm_m98 d98_54 rfl rfl
theorem d98_55 : decode prog_1_method_59_code 55 = .ok (.iload_n 3, 1) := by decide +kernel
theorem s98_55 {v0 v1 v2 : Value} {l1 : Int32} {st : List Value} {im : IM} {rm : RM}  : ev 98 55 [v0, v1, v2, .int l1] st im rm = ev 98 56 [v0, v1, v2, .int l1] (.int l1 :: st) (im) (rm) := ev_iload_n pm_m98 d98_55 rfl rfl
theorem d98_56 : decode prog_1_method_59_code 56 = .ok (.ishl, 1) := by decide +kernel
theorem s98_56 {v0 v1 v2 v3 : Value} {x : Int32} {y : Int32} {st : List Value} {im : IM} {rm : RM}  : ev 98 56 [v0, v1, v2, v3] (.int y :: .int x :: st) im rm = ev 98 57 [v0, v1, v2, v3] (.int (x <<< (y &&& 31)) :: st) (im) (rm) := ev_ishl pm_m98 d98_56 rfl
theorem d98_57 : decode prog_1_method_59_code 57 = .ok (.ior, 1) := by decide +kernel
theorem s98_57 {v0 v1 v2 v3 : Value} {x : Int32} {y : Int32} {st : List Value} {im : IM} {rm : RM}  : ev 98 57 [v0, v1, v2, v3] (.int y :: .int x :: st) im rm = ev 98 58 [v0, v1, v2, v3] (.int (x ||| y) :: st) (im) (rm) := ev_ior pm_m98 d98_57 rfl
theorem d98_58 : decode prog_1_method_59_code 58 = .ok (.iastore, 1) := by decide +kernel
theorem s98_58 {v0 v1 v2 v3 : Value} {a : Nat} {i : Int32} {v : Int32} {st : List Value} {im : IM} {rm : RM} (hk : kd a = 0) (hi : pm_in i (ln a) = true) : ev 98 58 [v0, v1, v2, v3] (.int v :: .int i :: .ref a :: st) im rm = ev 98 59 [v0, v1, v2, v3] st (pm_w2 im a i.toNatClampNeg v) (rm) := ev_iast pm_m98 d98_58 hk hi rfl
theorem d98_59 : decode prog_1_method_59_code 59 = .ok (.iinc 3 1, 3) := by decide +kernel
theorem s98_59 {v0 v1 : Value} {l1 : Int32} {l2 : Int32} {st : List Value} {im : IM} {rm : RM}  : ev 98 59 [v0, v1, .int l1, .int l2] st im rm = ev 98 62 [v0, v1, .int l1, .int (l2 + nI 1)] st (im) (rm) := ev_iinc pm_m98 d98_59 rfl rfl rfl rfl
theorem d98_62 : decode prog_1_method_59_code 62 = .ok (.goto (-45), 3) := by decide +kernel
theorem s98_62 {v0 v1 v2 v3 : Value}  {st : List Value} {im : IM} {rm : RM}  : ev 98 62 [v0, v1, v2, v3] st im rm = ev 98 17 [v0, v1, v2, v3] st (im) (rm) := ev_goto pm_m98 d98_62 rfl rfl
theorem d98_65 : decode prog_1_method_59_code 65 = .ok (.iinc 2 1, 3) := by decide +kernel
theorem s98_65 {v0 v3 : Value} {l1 : Int32} {l2 : Int32} {st : List Value} {im : IM} {rm : RM}  : ev 98 65 [v0, .int l1, .int l2, v3] st im rm = ev 98 68 [v0, .int l1, .int (l2 + nI 1), v3] st (im) (rm) := ev_iinc pm_m98 d98_65 rfl rfl rfl rfl
theorem d98_68 : decode prog_1_method_59_code 68 = .ok (.goto (-66), 3) := by decide +kernel
theorem s98_68 {v0 v1 v2 v3 : Value}  {st : List Value} {im : IM} {rm : RM}  : ev 98 68 [v0, v1, v2, v3] st im rm = ev 98 2 [v0, v1, v2, pm_u] st (im) (rm) := ev_goto pm_m98 d98_68 rfl rfl
theorem d98_71 : decode prog_1_method_59_code 71 = .ok (.return_, 1) := by decide +kernel
theorem s98_71 {v0 v1 v2 v3 : Value} {im : IM} {rm : RM} : ev 98 71 [v0, v1, v2, v3] [] im rm = some (none, im, rm) := ev_return pm_m98 d98_71 rfl
theorem d99_0 : decode prog_1_method_60_code 0 = .ok (.iconst 0, 1) := by decide +kernel
theorem s99_0 {v0 v1 v2 v3 : Value}  {st : List Value} {im : IM} {rm : RM}  : ev 99 0 [v0, v1, v2, v3] st im rm = ev 99 1 [v0, v1, v2, v3] (.int (nI 0) :: st) (im) (rm) := ev_iconst pm_m99 d99_0 rfl rfl
theorem d99_1 : decode prog_1_method_60_code 1 = .ok (.istore_n 2, 1) := by decide +kernel
theorem s99_1 {v0 v2 v3 : Value} {l1 : Int32} {x2 : Int32} {st : List Value} {im : IM} {rm : RM}  : ev 99 1 [v0, .int l1, v2, v3] (.int x2 :: st) im rm = ev 99 2 [v0, .int l1, .int x2, v3] st (im) (rm) := ev_istore_n pm_m99 d99_1 (Nat.le_of_ble_eq_true rfl) rfl rfl
theorem d99_2 : decode prog_1_method_60_code 2 = .ok (.iconst 0, 1) := by decide +kernel
theorem s99_2 {v0 v1 v2 v3 : Value}  {st : List Value} {im : IM} {rm : RM}  : ev 99 2 [v0, v1, v2, v3] st im rm = ev 99 3 [v0, v1, v2, v3] (.int (nI 0) :: st) (im) (rm) := ev_iconst pm_m99 d99_2 rfl rfl
theorem d99_3 : decode prog_1_method_60_code 3 = .ok (.istore_n 3, 1) := by decide +kernel
theorem s99_3 {v0 v1 v3 : Value} {l1 : Int32} {x2 : Int32} {st : List Value} {im : IM} {rm : RM}  : ev 99 3 [v0, v1, .int l1, v3] (.int x2 :: st) im rm = ev 99 4 [v0, v1, .int l1, .int x2] st (im) (rm) := ev_istore_n pm_m99 d99_3 (Nat.le_of_ble_eq_true rfl) rfl rfl
theorem d99_4 : decode prog_1_method_60_code 4 = .ok (.iload_n 3, 1) := by decide +kernel
theorem s99_4 {v0 v1 v2 : Value} {l1 : Int32} {st : List Value} {im : IM} {rm : RM}  : ev 99 4 [v0, v1, v2, .int l1] st im rm = ev 99 5 [v0, v1, v2, .int l1] (.int l1 :: st) (im) (rm) := ev_iload_n pm_m99 d99_4 rfl rfl
theorem d99_5 : decode prog_1_method_60_code 5 = .ok (.bipush 6, 2) := by decide +kernel
theorem s99_5 {v0 v1 v2 v3 : Value}  {st : List Value} {im : IM} {rm : RM}  : ev 99 5 [v0, v1, v2, v3] st im rm = ev 99 7 [v0, v1, v2, v3] (.int (nI 6) :: st) (im) (rm) := ev_bipush pm_m99 d99_5 rfl rfl
theorem d99_7 : decode prog_1_method_60_code 7 = .ok (.if_icmp .ge 27, 3) := by decide +kernel
theorem s99_7 {v0 v1 v2 v3 : Value} {x : Int32} {y : Int32} {st : List Value} {im : IM} {rm : RM} : ev 99 7 [v0, v1, v2, v3] (.int y :: .int x :: st) im rm = if y ≤ x then ev 99 34 [pm_u, pm_u, v2, pm_u] st im rm else ev 99 10 [v0, v1, v2, v3] st im rm := ev_icmp_ge pm_m99 d99_7 rfl rfl rfl
theorem d99_10 : decode prog_1_method_60_code 10 = .ok (.iload_n 1, 1) := by decide +kernel
theorem s99_10 {v0 v2 v3 : Value} {l1 : Int32} {st : List Value} {im : IM} {rm : RM}  : ev 99 10 [v0, .int l1, v2, v3] st im rm = ev 99 11 [v0, .int l1, v2, v3] (.int l1 :: st) (im) (rm) := ev_iload_n pm_m99 d99_10 rfl rfl
theorem d99_11 : decode prog_1_method_60_code 11 = .ok (.iload_n 3, 1) := by decide +kernel
theorem s99_11 {v0 v1 v2 : Value} {l1 : Int32} {st : List Value} {im : IM} {rm : RM}  : ev 99 11 [v0, v1, v2, .int l1] st im rm = ev 99 12 [v0, v1, v2, .int l1] (.int l1 :: st) (im) (rm) := ev_iload_n pm_m99 d99_11 rfl rfl
theorem d99_12 : decode prog_1_method_60_code 12 = .ok (.ishr, 1) := by decide +kernel
theorem s99_12 {v0 v1 v2 v3 : Value} {x : Int32} {y : Int32} {st : List Value} {im : IM} {rm : RM}  : ev 99 12 [v0, v1, v2, v3] (.int y :: .int x :: st) im rm = ev 99 13 [v0, v1, v2, v3] (.int (x >>> (y &&& 31)) :: st) (im) (rm) := ev_ishr pm_m99 d99_12 rfl
theorem d99_13 : decode prog_1_method_60_code 13 = .ok (.iconst 1, 1) := by decide +kernel
theorem s99_13 {v0 v1 v2 v3 : Value}  {st : List Value} {im : IM} {rm : RM}  : ev 99 13 [v0, v1, v2, v3] st im rm = ev 99 14 [v0, v1, v2, v3] (.int (nI 1) :: st) (im) (rm) := ev_iconst pm_m99 d99_13 rfl rfl
theorem d99_14 : decode prog_1_method_60_code 14 = .ok (.iand, 1) := by decide +kernel
theorem s99_14 {v0 v1 v2 v3 : Value} {x : Int32} {y : Int32} {st : List Value} {im : IM} {rm : RM}  : ev 99 14 [v0, v1, v2, v3] (.int y :: .int x :: st) im rm = ev 99 15 [v0, v1, v2, v3] (.int (x &&& y) :: st) (im) (rm) := ev_iand pm_m99 d99_14 rfl
theorem d99_15 : decode prog_1_method_60_code 15 = .ok (.iconst 1, 1) := by decide +kernel
theorem s99_15 {v0 v1 v2 v3 : Value}  {st : List Value} {im : IM} {rm : RM}  : ev 99 15 [v0, v1, v2, v3] st im rm = ev 99 16 [v0, v1, v2, v3] (.int (nI 1) :: st) (im) (rm) := ev_iconst pm_m99 d99_15 rfl rfl
theorem d99_16 : decode prog_1_method_60_code 16 = .ok (.if_icmp .ne 12, 3) := by decide +kernel
theorem s99_16 {v0 v1 v2 v3 : Value} {x : Int32} {y : Int32} {st : List Value} {im : IM} {rm : RM} : ev 99 16 [v0, v1, v2, v3] (.int y :: .int x :: st) im rm = if x = y then ev 99 19 [v0, v1, v2, v3] st im rm else ev 99 28 [v0, v1, v2, v3] st im rm := ev_icmp_ne pm_m99 d99_16 rfl rfl rfl
theorem d99_19 : decode prog_1_method_60_code 19 = .ok (.iload_n 2, 1) := by decide +kernel
theorem s99_19 {v0 v1 v3 : Value} {l1 : Int32} {st : List Value} {im : IM} {rm : RM}  : ev 99 19 [v0, v1, .int l1, v3] st im rm = ev 99 20 [v0, v1, .int l1, v3] (.int l1 :: st) (im) (rm) := ev_iload_n pm_m99 d99_19 rfl rfl
theorem d99_20 : decode prog_1_method_60_code 20 = .ok (.aload_n 0, 1) := by decide +kernel
theorem s99_20 {v1 v2 v3 : Value} {l1 : Nat} {st : List Value} {im : IM} {rm : RM}  : ev 99 20 [.ref l1, v1, v2, v3] st im rm = ev 99 21 [.ref l1, v1, v2, v3] (.ref l1 :: st) (im) (rm) := ev_aload_n pm_m99 d99_20 rfl rfl
theorem d99_21 : decode prog_1_method_60_code 21 = .ok (.getfield 96, 3) := by decide +kernel
theorem s99_21 {v0 v1 v2 v3 : Value} {a : Nat} {st : List Value} {im : IM} {rm : RM} (hk : kd a = 17) : ev 99 21 [v0, v1, v2, v3] (.ref a :: st) im rm = ev 99 24 [v0, v1, v2, v3] (pm_ro (rm a 17) :: st) (im) (rm) := ev_getR pm_m99 d99_21 f7_96 rfl hk rfl
theorem d99_24 : decode prog_1_method_60_code 24 = .ok (.iload_n 3, 1) := by decide +kernel
theorem s99_24 {v0 v1 v2 : Value} {l1 : Int32} {st : List Value} {im : IM} {rm : RM}  : ev 99 24 [v0, v1, v2, .int l1] st im rm = ev 99 25 [v0, v1, v2, .int l1] (.int l1 :: st) (im) (rm) := ev_iload_n pm_m99 d99_24 rfl rfl
theorem d99_25 : decode prog_1_method_60_code 25 = .ok (.iaload, 1) := by decide +kernel
theorem s99_25 {v0 v1 v2 v3 : Value} {a : Nat} {i : Int32} {st : List Value} {im : IM} {rm : RM} (hk : kd a = 0) (hi : pm_in i (ln a) = true) : ev 99 25 [v0, v1, v2, v3] (.int i :: .ref a :: st) im rm = ev 99 26 [v0, v1, v2, v3] (.int (im a i.toNatClampNeg) :: st) (im) (rm) := ev_iald pm_m99 d99_25 hk hi rfl
theorem d99_26 : decode prog_1_method_60_code 26 = .ok (.ior, 1) := by decide +kernel
theorem s99_26 {v0 v1 v2 v3 : Value} {x : Int32} {y : Int32} {st : List Value} {im : IM} {rm : RM}  : ev 99 26 [v0, v1, v2, v3] (.int y :: .int x :: st) im rm = ev 99 27 [v0, v1, v2, v3] (.int (x ||| y) :: st) (im) (rm) := ev_ior pm_m99 d99_26 rfl
theorem d99_27 : decode prog_1_method_60_code 27 = .ok (.istore_n 2, 1) := by decide +kernel
theorem s99_27 {v0 v2 v3 : Value} {l1 : Int32} {x2 : Int32} {st : List Value} {im : IM} {rm : RM}  : ev 99 27 [v0, .int l1, v2, v3] (.int x2 :: st) im rm = ev 99 28 [v0, .int l1, .int x2, v3] st (im) (rm) := ev_istore_n pm_m99 d99_27 (Nat.le_of_ble_eq_true rfl) rfl rfl
theorem d99_28 : decode prog_1_method_60_code 28 = .ok (.iinc 3 1, 3) := by decide +kernel
theorem s99_28 {v0 v1 : Value} {l1 : Int32} {l2 : Int32} {st : List Value} {im : IM} {rm : RM}  : ev 99 28 [v0, v1, .int l1, .int l2] st im rm = ev 99 31 [v0, v1, .int l1, .int (l2 + nI 1)] st (im) (rm) := ev_iinc pm_m99 d99_28 rfl rfl rfl rfl
theorem d99_31 : decode prog_1_method_60_code 31 = .ok (.goto (-27), 3) := by decide +kernel
theorem s99_31 {v0 v1 v2 v3 : Value}  {st : List Value} {im : IM} {rm : RM}  : ev 99 31 [v0, v1, v2, v3] st im rm = ev 99 4 [v0, v1, v2, v3] st (im) (rm) := ev_goto pm_m99 d99_31 rfl rfl
theorem d99_34 : decode prog_1_method_60_code 34 = .ok (.iload_n 2, 1) := by decide +kernel
theorem s99_34 {v0 v1 v3 : Value} {l1 : Int32} {st : List Value} {im : IM} {rm : RM}  : ev 99 34 [v0, v1, .int l1, v3] st im rm = ev 99 35 [v0, v1, .int l1, v3] (.int l1 :: st) (im) (rm) := ev_iload_n pm_m99 d99_34 rfl rfl
theorem d99_35 : decode prog_1_method_60_code 35 = .ok (.ireturn, 1) := by decide +kernel
theorem s99_35 {v0 v1 v2 v3 : Value} {x : Int32} {im : IM} {rm : RM} : ev 99 35 [v0, v1, v2, v3] [.int x] im rm = some (some (.int x), im, rm) := ev_ireturn pm_m99 d99_35 rfl
theorem d100_0 : decode prog_1_method_61_code 0 = .ok (.iconst 0, 1) := by decide +kernel
theorem s100_0 {v0 v1 v2 v3 : Value}  {st : List Value} {im : IM} {rm : RM}  : ev 100 0 [v0, v1, v2, v3] st im rm = ev 100 1 [v0, v1, v2, v3] (.int (nI 0) :: st) (im) (rm) := ev_iconst pm_m100 d100_0 rfl rfl
theorem d100_1 : decode prog_1_method_61_code 1 = .ok (.istore_n 2, 1) := by decide +kernel
theorem s100_1 {v0 v2 v3 : Value} {l1 : Int32} {x2 : Int32} {st : List Value} {im : IM} {rm : RM}  : ev 100 1 [v0, .int l1, v2, v3] (.int x2 :: st) im rm = ev 100 2 [v0, .int l1, .int x2, v3] st (im) (rm) := ev_istore_n pm_m100 d100_1 (Nat.le_of_ble_eq_true rfl) rfl rfl
theorem d100_2 : decode prog_1_method_61_code 2 = .ok (.iconst 0, 1) := by decide +kernel
theorem s100_2 {v0 v1 v2 v3 : Value}  {st : List Value} {im : IM} {rm : RM}  : ev 100 2 [v0, v1, v2, v3] st im rm = ev 100 3 [v0, v1, v2, v3] (.int (nI 0) :: st) (im) (rm) := ev_iconst pm_m100 d100_2 rfl rfl
theorem d100_3 : decode prog_1_method_61_code 3 = .ok (.istore_n 3, 1) := by decide +kernel
theorem s100_3 {v0 v1 v3 : Value} {l1 : Int32} {x2 : Int32} {st : List Value} {im : IM} {rm : RM}  : ev 100 3 [v0, v1, .int l1, v3] (.int x2 :: st) im rm = ev 100 4 [v0, v1, .int l1, .int x2] st (im) (rm) := ev_istore_n pm_m100 d100_3 (Nat.le_of_ble_eq_true rfl) rfl rfl
theorem d100_4 : decode prog_1_method_61_code 4 = .ok (.iload_n 3, 1) := by decide +kernel
theorem s100_4 {v0 v1 v2 : Value} {l1 : Int32} {st : List Value} {im : IM} {rm : RM}  : ev 100 4 [v0, v1, v2, .int l1] st im rm = ev 100 5 [v0, v1, v2, .int l1] (.int l1 :: st) (im) (rm) := ev_iload_n pm_m100 d100_4 rfl rfl
theorem d100_5 : decode prog_1_method_61_code 5 = .ok (.bipush 6, 2) := by decide +kernel
theorem s100_5 {v0 v1 v2 v3 : Value}  {st : List Value} {im : IM} {rm : RM}  : ev 100 5 [v0, v1, v2, v3] st im rm = ev 100 7 [v0, v1, v2, v3] (.int (nI 6) :: st) (im) (rm) := ev_bipush pm_m100 d100_5 rfl rfl
theorem d100_7 : decode prog_1_method_61_code 7 = .ok (.if_icmp .ge 30, 3) := by decide +kernel
theorem s100_7 {v0 v1 v2 v3 : Value} {x : Int32} {y : Int32} {st : List Value} {im : IM} {rm : RM} : ev 100 7 [v0, v1, v2, v3] (.int y :: .int x :: st) im rm = if y ≤ x then ev 100 37 [pm_u, pm_u, v2, pm_u] st im rm else ev 100 10 [v0, v1, v2, v3] st im rm := ev_icmp_ge pm_m100 d100_7 rfl rfl rfl
theorem d100_10 : decode prog_1_method_61_code 10 = .ok (.iload_n 1, 1) := by decide +kernel
theorem s100_10 {v0 v2 v3 : Value} {l1 : Int32} {st : List Value} {im : IM} {rm : RM}  : ev 100 10 [v0, .int l1, v2, v3] st im rm = ev 100 11 [v0, .int l1, v2, v3] (.int l1 :: st) (im) (rm) := ev_iload_n pm_m100 d100_10 rfl rfl
theorem d100_11 : decode prog_1_method_61_code 11 = .ok (.iload_n 3, 1) := by decide +kernel
theorem s100_11 {v0 v1 v2 : Value} {l1 : Int32} {st : List Value} {im : IM} {rm : RM}  : ev 100 11 [v0, v1, v2, .int l1] st im rm = ev 100 12 [v0, v1, v2, .int l1] (.int l1 :: st) (im) (rm) := ev_iload_n pm_m100 d100_11 rfl rfl
theorem d100_12 : decode prog_1_method_61_code 12 = .ok (.ishr, 1) := by decide +kernel
theorem s100_12 {v0 v1 v2 v3 : Value} {x : Int32} {y : Int32} {st : List Value} {im : IM} {rm : RM}  : ev 100 12 [v0, v1, v2, v3] (.int y :: .int x :: st) im rm = ev 100 13 [v0, v1, v2, v3] (.int (x >>> (y &&& 31)) :: st) (im) (rm) := ev_ishr pm_m100 d100_12 rfl
theorem d100_13 : decode prog_1_method_61_code 13 = .ok (.iconst 1, 1) := by decide +kernel
theorem s100_13 {v0 v1 v2 v3 : Value}  {st : List Value} {im : IM} {rm : RM}  : ev 100 13 [v0, v1, v2, v3] st im rm = ev 100 14 [v0, v1, v2, v3] (.int (nI 1) :: st) (im) (rm) := ev_iconst pm_m100 d100_13 rfl rfl
theorem d100_14 : decode prog_1_method_61_code 14 = .ok (.iand, 1) := by decide +kernel
theorem s100_14 {v0 v1 v2 v3 : Value} {x : Int32} {y : Int32} {st : List Value} {im : IM} {rm : RM}  : ev 100 14 [v0, v1, v2, v3] (.int y :: .int x :: st) im rm = ev 100 15 [v0, v1, v2, v3] (.int (x &&& y) :: st) (im) (rm) := ev_iand pm_m100 d100_14 rfl
theorem d100_15 : decode prog_1_method_61_code 15 = .ok (.iconst 1, 1) := by decide +kernel
theorem s100_15 {v0 v1 v2 v3 : Value}  {st : List Value} {im : IM} {rm : RM}  : ev 100 15 [v0, v1, v2, v3] st im rm = ev 100 16 [v0, v1, v2, v3] (.int (nI 1) :: st) (im) (rm) := ev_iconst pm_m100 d100_15 rfl rfl
theorem d100_16 : decode prog_1_method_61_code 16 = .ok (.if_icmp .ne 15, 3) := by decide +kernel
theorem s100_16 {v0 v1 v2 v3 : Value} {x : Int32} {y : Int32} {st : List Value} {im : IM} {rm : RM} : ev 100 16 [v0, v1, v2, v3] (.int y :: .int x :: st) im rm = if x = y then ev 100 19 [v0, v1, v2, v3] st im rm else ev 100 31 [v0, v1, v2, v3] st im rm := ev_icmp_ne pm_m100 d100_16 rfl rfl rfl
theorem d100_19 : decode prog_1_method_61_code 19 = .ok (.iload_n 2, 1) := by decide +kernel
theorem s100_19 {v0 v1 v3 : Value} {l1 : Int32} {st : List Value} {im : IM} {rm : RM}  : ev 100 19 [v0, v1, .int l1, v3] st im rm = ev 100 20 [v0, v1, .int l1, v3] (.int l1 :: st) (im) (rm) := ev_iload_n pm_m100 d100_19 rfl rfl
theorem d100_20 : decode prog_1_method_61_code 20 = .ok (.aload_n 0, 1) := by decide +kernel
theorem s100_20 {v1 v2 v3 : Value} {l1 : Nat} {st : List Value} {im : IM} {rm : RM}  : ev 100 20 [.ref l1, v1, v2, v3] st im rm = ev 100 21 [.ref l1, v1, v2, v3] (.ref l1 :: st) (im) (rm) := ev_aload_n pm_m100 d100_20 rfl rfl
theorem d100_21 : decode prog_1_method_61_code 21 = .ok (.getfield 11, 3) := by decide +kernel
theorem s100_21 {v0 v1 v2 v3 : Value} {a : Nat} {st : List Value} {im : IM} {rm : RM} (hk : kd a = 17) : ev 100 21 [v0, v1, v2, v3] (.ref a :: st) im rm = ev 100 24 [v0, v1, v2, v3] (pm_ro (rm a 0) :: st) (im) (rm) := ev_getR pm_m100 d100_21 f7_11 rfl hk rfl
theorem d100_24 : decode prog_1_method_61_code 24 = .ok (.iload_n 3, 1) := by decide +kernel
theorem s100_24 {v0 v1 v2 : Value} {l1 : Int32} {st : List Value} {im : IM} {rm : RM}  : ev 100 24 [v0, v1, v2, .int l1] st im rm = ev 100 25 [v0, v1, v2, .int l1] (.int l1 :: st) (im) (rm) := ev_iload_n pm_m100 d100_24 rfl rfl
theorem d100_25 : decode prog_1_method_61_code 25 = .ok (.aaload, 1) := by decide +kernel
theorem s100_25 {v0 v1 v2 v3 : Value} {a : Nat} {i : Int32} {st : List Value} {im : IM} {rm : RM} (hk : 2 ≤ kd a ∧ kd a ≤ 5) (hi : pm_in i (ln a) = true) : ev 100 25 [v0, v1, v2, v3] (.int i :: .ref a :: st) im rm = ev 100 26 [v0, v1, v2, v3] (pm_ro (rm a i.toNatClampNeg) :: st) (im) (rm) := ev_aald pm_m100 d100_25 hk hi rfl
theorem d100_26 : decode prog_1_method_61_code 26 = .ok (.getfield 278, 3) := by decide +kernel
theorem s100_26 {v0 v1 v2 v3 : Value} {a : Nat} {st : List Value} {im : IM} {rm : RM} (hk : kd a = 10) : ev 100 26 [v0, v1, v2, v3] (.ref a :: st) im rm = ev 100 29 [v0, v1, v2, v3] (.int (im a 3) :: st) (im) (rm) := ev_getI pm_m100 d100_26 f7_278 rfl hk rfl
theorem d100_29 : decode prog_1_method_61_code 29 = .ok (.iadd, 1) := by decide +kernel
theorem s100_29 {v0 v1 v2 v3 : Value} {x : Int32} {y : Int32} {st : List Value} {im : IM} {rm : RM}  : ev 100 29 [v0, v1, v2, v3] (.int y :: .int x :: st) im rm = ev 100 30 [v0, v1, v2, v3] (.int (x + y) :: st) (im) (rm) := ev_iadd pm_m100 d100_29 rfl
theorem d100_30 : decode prog_1_method_61_code 30 = .ok (.istore_n 2, 1) := by decide +kernel
theorem s100_30 {v0 v2 v3 : Value} {l1 : Int32} {x2 : Int32} {st : List Value} {im : IM} {rm : RM}  : ev 100 30 [v0, .int l1, v2, v3] (.int x2 :: st) im rm = ev 100 31 [v0, .int l1, .int x2, v3] st (im) (rm) := ev_istore_n pm_m100 d100_30 (Nat.le_of_ble_eq_true rfl) rfl rfl
theorem d100_31 : decode prog_1_method_61_code 31 = .ok (.iinc 3 1, 3) := by decide +kernel
theorem s100_31 {v0 v1 : Value} {l1 : Int32} {l2 : Int32} {st : List Value} {im : IM} {rm : RM}  : ev 100 31 [v0, v1, .int l1, .int l2] st im rm = ev 100 34 [v0, v1, .int l1, .int (l2 + nI 1)] st (im) (rm) := ev_iinc pm_m100 d100_31 rfl rfl rfl rfl
theorem d100_34 : decode prog_1_method_61_code 34 = .ok (.goto (-30), 3) := by decide +kernel
theorem s100_34 {v0 v1 v2 v3 : Value}  {st : List Value} {im : IM} {rm : RM}  : ev 100 34 [v0, v1, v2, v3] st im rm = ev 100 4 [v0, v1, v2, v3] st (im) (rm) := ev_goto pm_m100 d100_34 rfl rfl
theorem d100_37 : decode prog_1_method_61_code 37 = .ok (.iload_n 2, 1) := by decide +kernel
theorem s100_37 {v0 v1 v3 : Value} {l1 : Int32} {st : List Value} {im : IM} {rm : RM}  : ev 100 37 [v0, v1, .int l1, v3] st im rm = ev 100 38 [v0, v1, .int l1, v3] (.int l1 :: st) (im) (rm) := ev_iload_n pm_m100 d100_37 rfl rfl
theorem d100_38 : decode prog_1_method_61_code 38 = .ok (.ireturn, 1) := by decide +kernel
theorem s100_38 {v0 v1 v2 v3 : Value} {x : Int32} {im : IM} {rm : RM} : ev 100 38 [v0, v1, v2, v3] [.int x] im rm = some (some (.int x), im, rm) := ev_ireturn pm_m100 d100_38 rfl
theorem d101_0 : decode prog_1_method_62_code 0 = .ok (.lconst 0, 1) := by decide +kernel
theorem s101_0 {v0 v1 v2 v3 v4 v5 : Value}  {st : List Value} {im : IM} {rm : RM}  : ev 101 0 [v0, v1, v2, v3, v4, v5] st im rm = ev 101 1 [v0, v1, v2, v3, v4, v5] (.long (lN 0) :: st) (im) (rm) := ev_lconst pm_m101 d101_0 rfl rfl
theorem d101_1 : decode prog_1_method_62_code 1 = .ok (.lstore_n 2, 1) := by decide +kernel
theorem s101_1 {v0 v2 v3 v4 v5 : Value} {l1 : Int32} {x2 : Int64} {st : List Value} {im : IM} {rm : RM}  : ev 101 1 [v0, .int l1, v2, v3, v4, v5] (.long x2 :: st) im rm = ev 101 2 [v0, .int l1, .long x2, pm_u, v4, v5] st (im) (rm) := ev_lstore_n pm_m101 d101_1 (Nat.le_of_ble_eq_true rfl) rfl rfl
theorem d101_2 : decode prog_1_method_62_code 2 = .ok (.iconst 0, 1) := by decide +kernel
theorem s101_2 {v0 v1 v2 v3 v4 v5 : Value}  {st : List Value} {im : IM} {rm : RM}  : ev 101 2 [v0, v1, v2, v3, v4, v5] st im rm = ev 101 3 [v0, v1, v2, v3, v4, v5] (.int (nI 0) :: st) (im) (rm) := ev_iconst pm_m101 d101_2 rfl rfl
theorem d101_3 : decode prog_1_method_62_code 3 = .ok (.istore 4, 2) := by decide +kernel
theorem s101_3 {v0 v1 v2 v4 v5 : Value} {x1 : Int32} {st : List Value} {im : IM} {rm : RM}  : ev 101 3 [v0, v1, v2, pm_u, v4, v5] (.int x1 :: st) im rm = ev 101 5 [v0, v1, v2, pm_u, .int x1, pm_u] st (im) (rm) := ev_istore pm_m101 d101_3 (Nat.le_of_ble_eq_true rfl) rfl rfl
theorem d101_5 : decode prog_1_method_62_code 5 = .ok (.iload 4, 2) := by decide +kernel
theorem s101_5 {v0 v1 v2 v3 v5 : Value} {l1 : Int32} {st : List Value} {im : IM} {rm : RM}  : ev 101 5 [v0, v1, v2, v3, .int l1, v5] st im rm = ev 101 7 [v0, v1, v2, v3, .int l1, v5] (.int l1 :: st) (im) (rm) := ev_iload pm_m101 d101_5 rfl rfl
theorem d101_7 : decode prog_1_method_62_code 7 = .ok (.bipush 6, 2) := by decide +kernel
theorem s101_7 {v0 v1 v2 v3 v4 v5 : Value}  {st : List Value} {im : IM} {rm : RM}  : ev 101 7 [v0, v1, v2, v3, v4, v5] st im rm = ev 101 9 [v0, v1, v2, v3, v4, v5] (.int (nI 6) :: st) (im) (rm) := ev_bipush pm_m101 d101_7 rfl rfl
theorem d101_9 : decode prog_1_method_62_code 9 = .ok (.if_icmp .ge 75, 3) := by decide +kernel
theorem s101_9 {v0 v1 v2 v3 v4 v5 : Value} {x : Int32} {y : Int32} {st : List Value} {im : IM} {rm : RM} : ev 101 9 [v0, v1, v2, v3, v4, v5] (.int y :: .int x :: st) im rm = if y ≤ x then ev 101 84 [pm_u, pm_u, v2, pm_u, pm_u, pm_u] st im rm else ev 101 12 [v0, v1, v2, v3, v4, v5] st im rm := ev_icmp_ge pm_m101 d101_9 rfl rfl rfl
theorem d101_12 : decode prog_1_method_62_code 12 = .ok (.aload_n 0, 1) := by decide +kernel
theorem s101_12 {v1 v2 v3 v4 v5 : Value} {l1 : Nat} {st : List Value} {im : IM} {rm : RM}  : ev 101 12 [.ref l1, v1, v2, v3, v4, v5] st im rm = ev 101 13 [.ref l1, v1, v2, v3, v4, v5] (.ref l1 :: st) (im) (rm) := ev_aload_n pm_m101 d101_12 rfl rfl
theorem d101_13 : decode prog_1_method_62_code 13 = .ok (.getfield 11, 3) := by decide +kernel
theorem s101_13 {v0 v1 v2 v3 v4 v5 : Value} {a : Nat} {st : List Value} {im : IM} {rm : RM} (hk : kd a = 17) : ev 101 13 [v0, v1, v2, v3, v4, v5] (.ref a :: st) im rm = ev 101 16 [v0, v1, v2, v3, v4, v5] (pm_ro (rm a 0) :: st) (im) (rm) := ev_getR pm_m101 d101_13 f7_11 rfl hk rfl
theorem d101_16 : decode prog_1_method_62_code 16 = .ok (.iload 4, 2) := by decide +kernel
theorem s101_16 {v0 v1 v2 v3 v5 : Value} {l1 : Int32} {st : List Value} {im : IM} {rm : RM}  : ev 101 16 [v0, v1, v2, v3, .int l1, v5] st im rm = ev 101 18 [v0, v1, v2, v3, .int l1, v5] (.int l1 :: st) (im) (rm) := ev_iload pm_m101 d101_16 rfl rfl
theorem d101_18 : decode prog_1_method_62_code 18 = .ok (.aaload, 1) := by decide +kernel
theorem s101_18 {v0 v1 v2 v3 v4 v5 : Value} {a : Nat} {i : Int32} {st : List Value} {im : IM} {rm : RM} (hk : 2 ≤ kd a ∧ kd a ≤ 5) (hi : pm_in i (ln a) = true) : ev 101 18 [v0, v1, v2, v3, v4, v5] (.int i :: .ref a :: st) im rm = ev 101 19 [v0, v1, v2, v3, v4, v5] (pm_ro (rm a i.toNatClampNeg) :: st) (im) (rm) := ev_aald pm_m101 d101_18 hk hi rfl
theorem d101_19 : decode prog_1_method_62_code 19 = .ok (.getfield 246, 3) := by decide +kernel
theorem s101_19 {v0 v1 v2 v3 v4 v5 : Value} {a : Nat} {st : List Value} {im : IM} {rm : RM} (hk : kd a = 10) : ev 101 19 [v0, v1, v2, v3, v4, v5] (.ref a :: st) im rm = ev 101 22 [v0, v1, v2, v3, v4, v5] (.int (im a 0) :: st) (im) (rm) := ev_getI pm_m101 d101_19 f7_246 rfl hk rfl
theorem d101_22 : decode prog_1_method_62_code 22 = .ok (.iconst 1, 1) := by decide +kernel
theorem s101_22 {v0 v1 v2 v3 v4 v5 : Value}  {st : List Value} {im : IM} {rm : RM}  : ev 101 22 [v0, v1, v2, v3, v4, v5] st im rm = ev 101 23 [v0, v1, v2, v3, v4, v5] (.int (nI 1) :: st) (im) (rm) := ev_iconst pm_m101 d101_22 rfl rfl
theorem d101_23 : decode prog_1_method_62_code 23 = .ok (.if_icmp .ne 55, 3) := by decide +kernel
theorem s101_23 {v0 v1 v2 v3 v4 v5 : Value} {x : Int32} {y : Int32} {st : List Value} {im : IM} {rm : RM} : ev 101 23 [v0, v1, v2, v3, v4, v5] (.int y :: .int x :: st) im rm = if x = y then ev 101 26 [v0, v1, v2, v3, v4, v5] st im rm else ev 101 78 [v0, v1, v2, pm_u, v4, pm_u] st im rm := ev_icmp_ne pm_m101 d101_23 rfl rfl rfl
theorem d101_26 : decode prog_1_method_62_code 26 = .ok (.aload_n 0, 1) := by decide +kernel
theorem s101_26 {v1 v2 v3 v4 v5 : Value} {l1 : Nat} {st : List Value} {im : IM} {rm : RM}  : ev 101 26 [.ref l1, v1, v2, v3, v4, v5] st im rm = ev 101 27 [.ref l1, v1, v2, v3, v4, v5] (.ref l1 :: st) (im) (rm) := ev_aload_n pm_m101 d101_26 rfl rfl
theorem d101_27 : decode prog_1_method_62_code 27 = .ok (.getfield 11, 3) := by decide +kernel
theorem s101_27 {v0 v1 v2 v3 v4 v5 : Value} {a : Nat} {st : List Value} {im : IM} {rm : RM} (hk : kd a = 17) : ev 101 27 [v0, v1, v2, v3, v4, v5] (.ref a :: st) im rm = ev 101 30 [v0, v1, v2, v3, v4, v5] (pm_ro (rm a 0) :: st) (im) (rm) := ev_getR pm_m101 d101_27 f7_11 rfl hk rfl
theorem d101_30 : decode prog_1_method_62_code 30 = .ok (.iload 4, 2) := by decide +kernel
theorem s101_30 {v0 v1 v2 v3 v5 : Value} {l1 : Int32} {st : List Value} {im : IM} {rm : RM}  : ev 101 30 [v0, v1, v2, v3, .int l1, v5] st im rm = ev 101 32 [v0, v1, v2, v3, .int l1, v5] (.int l1 :: st) (im) (rm) := ev_iload pm_m101 d101_30 rfl rfl
theorem d101_32 : decode prog_1_method_62_code 32 = .ok (.aaload, 1) := by decide +kernel
theorem s101_32 {v0 v1 v2 v3 v4 v5 : Value} {a : Nat} {i : Int32} {st : List Value} {im : IM} {rm : RM} (hk : 2 ≤ kd a ∧ kd a ≤ 5) (hi : pm_in i (ln a) = true) : ev 101 32 [v0, v1, v2, v3, v4, v5] (.int i :: .ref a :: st) im rm = ev 101 33 [v0, v1, v2, v3, v4, v5] (pm_ro (rm a i.toNatClampNeg) :: st) (im) (rm) := ev_aald pm_m101 d101_32 hk hi rfl
theorem d101_33 : decode prog_1_method_62_code 33 = .ok (.getfield 382, 3) := by decide +kernel
theorem s101_33 {v0 v1 v2 v3 v4 v5 : Value} {a : Nat} {st : List Value} {im : IM} {rm : RM} (hk : kd a = 10) : ev 101 33 [v0, v1, v2, v3, v4, v5] (.ref a :: st) im rm = ev 101 36 [v0, v1, v2, v3, v4, v5] (.int (im a 1) :: st) (im) (rm) := ev_getI pm_m101 d101_33 f7_382 rfl hk rfl
theorem d101_36 : decode prog_1_method_62_code 36 = .ok (.iload_n 1, 1) := by decide +kernel
theorem s101_36 {v0 v2 v3 v4 v5 : Value} {l1 : Int32} {st : List Value} {im : IM} {rm : RM}  : ev 101 36 [v0, .int l1, v2, v3, v4, v5] st im rm = ev 101 37 [v0, .int l1, v2, v3, v4, v5] (.int l1 :: st) (im) (rm) := ev_iload_n pm_m101 d101_36 rfl rfl
theorem d101_37 : decode prog_1_method_62_code 37 = .ok (.if_icmp .ne 41, 3) := by decide +kernel
theorem s101_37 {v0 v1 v2 v3 v4 v5 : Value} {x : Int32} {y : Int32} {st : List Value} {im : IM} {rm : RM} : ev 101 37 [v0, v1, v2, v3, v4, v5] (.int y :: .int x :: st) im rm = if x = y then ev 101 40 [v0, v1, v2, v3, v4, v5] st im rm else ev 101 78 [v0, v1, v2, pm_u, v4, pm_u] st im rm := ev_icmp_ne pm_m101 d101_37 rfl rfl rfl
theorem d101_40 : decode prog_1_method_62_code 40 = .ok (.iconst 0, 1) := by decide +kernel
theorem s101_40 {v0 v1 v2 v3 v4 v5 : Value}  {st : List Value} {im : IM} {rm : RM}  : ev 101 40 [v0, v1, v2, v3, v4, v5] st im rm = ev 101 41 [v0, v1, v2, v3, v4, v5] (.int (nI 0) :: st) (im) (rm) := ev_iconst pm_m101 d101_40 rfl rfl
theorem d101_41 : decode prog_1_method_62_code 41 = .ok (.istore 5, 2) := by decide +kernel
theorem s101_41 {v0 v1 v2 v3 v5 : Value} {l1 : Int32} {x2 : Int32} {st : List Value} {im : IM} {rm : RM}  : ev 101 41 [v0, v1, v2, v3, .int l1, v5] (.int x2 :: st) im rm = ev 101 43 [v0, v1, v2, pm_u, .int l1, .int x2] st (im) (rm) := ev_istore pm_m101 d101_41 (Nat.le_of_ble_eq_true rfl) rfl rfl
theorem d101_43 : decode prog_1_method_62_code 43 = .ok (.iload 5, 2) := by decide +kernel
theorem s101_43 {v0 v1 v2 v3 v4 : Value} {l1 : Int32} {st : List Value} {im : IM} {rm : RM}  : ev 101 43 [v0, v1, v2, v3, v4, .int l1] st im rm = ev 101 45 [v0, v1, v2, v3, v4, .int l1] (.int l1 :: st) (im) (rm) := ev_iload pm_m101 d101_43 rfl rfl
theorem d101_45 : decode prog_1_method_62_code 45 = .ok (.iconst 4, 1) := by decide +kernel
theorem s101_45 {v0 v1 v2 v3 v4 v5 : Value}  {st : List Value} {im : IM} {rm : RM}  : ev 101 45 [v0, v1, v2, v3, v4, v5] st im rm = ev 101 46 [v0, v1, v2, v3, v4, v5] (.int (nI 4) :: st) (im) (rm) := ev_iconst pm_m101 d101_45 rfl rfl
theorem d101_46 : decode prog_1_method_62_code 46 = .ok (.if_icmp .ge 32, 3) := by decide +kernel
theorem s101_46 {v0 v1 v2 v3 v4 v5 : Value} {x : Int32} {y : Int32} {st : List Value} {im : IM} {rm : RM} : ev 101 46 [v0, v1, v2, v3, v4, v5] (.int y :: .int x :: st) im rm = if y ≤ x then ev 101 78 [v0, v1, v2, pm_u, v4, pm_u] st im rm else ev 101 49 [v0, v1, v2, v3, v4, v5] st im rm := ev_icmp_ge pm_m101 d101_46 rfl rfl rfl
theorem d101_49 : decode prog_1_method_62_code 49 = .ok (.lload_n 2, 1) := by decide +kernel
theorem s101_49 {v0 v1 v3 v4 v5 : Value} {l1 : Int64} {st : List Value} {im : IM} {rm : RM}  : ev 101 49 [v0, v1, .long l1, v3, v4, v5] st im rm = ev 101 50 [v0, v1, .long l1, v3, v4, v5] (.long l1 :: st) (im) (rm) := ev_lload_n pm_m101 d101_49 rfl rfl
theorem d101_50 : decode prog_1_method_62_code 50 = .ok (.aload_n 0, 1) := by decide +kernel
theorem s101_50 {v1 v2 v3 v4 v5 : Value} {l1 : Nat} {st : List Value} {im : IM} {rm : RM}  : ev 101 50 [.ref l1, v1, v2, v3, v4, v5] st im rm = ev 101 51 [.ref l1, v1, v2, v3, v4, v5] (.ref l1 :: st) (im) (rm) := ev_aload_n pm_m101 d101_50 rfl rfl
theorem d101_51 : decode prog_1_method_62_code 51 = .ok (.getfield 46, 3) := by decide +kernel
theorem s101_51 {v0 v1 v2 v3 v4 v5 : Value} {a : Nat} {st : List Value} {im : IM} {rm : RM} (hk : kd a = 17) : ev 101 51 [v0, v1, v2, v3, v4, v5] (.ref a :: st) im rm = ev 101 54 [v0, v1, v2, v3, v4, v5] (pm_ro (rm a 6) :: st) (im) (rm) := ev_getR pm_m101 d101_51 f7_46 rfl hk rfl
theorem d101_54 : decode prog_1_method_62_code 54 = .ok (.iload 5, 2) := by decide +kernel
theorem s101_54 {v0 v1 v2 v3 v4 : Value} {l1 : Int32} {st : List Value} {im : IM} {rm : RM}  : ev 101 54 [v0, v1, v2, v3, v4, .int l1] st im rm = ev 101 56 [v0, v1, v2, v3, v4, .int l1] (.int l1 :: st) (im) (rm) := ev_iload pm_m101 d101_54 rfl rfl
theorem d101_56 : decode prog_1_method_62_code 56 = .ok (.iaload, 1) := by decide +kernel
theorem s101_56 {v0 v1 v2 v3 v4 v5 : Value} {a : Nat} {i : Int32} {st : List Value} {im : IM} {rm : RM} (hk : kd a = 0) (hi : pm_in i (ln a) = true) : ev 101 56 [v0, v1, v2, v3, v4, v5] (.int i :: .ref a :: st) im rm = ev 101 57 [v0, v1, v2, v3, v4, v5] (.int (im a i.toNatClampNeg) :: st) (im) (rm) := ev_iald pm_m101 d101_56 hk hi rfl
theorem d101_57 : decode prog_1_method_62_code 57 = .ok (.i2l, 1) := by decide +kernel
theorem s101_57 {v0 v1 v2 v3 v4 v5 : Value} {x : Int32} {st : List Value} {im : IM} {rm : RM}  : ev 101 57 [v0, v1, v2, v3, v4, v5] (.int x :: st) im rm = ev 101 58 [v0, v1, v2, v3, v4, v5] (.long x.toInt64 :: st) (im) (rm) := ev_i2l pm_m101 d101_57 rfl
theorem d101_58 : decode prog_1_method_62_code 58 = .ok (.aload_n 0, 1) := by decide +kernel
theorem s101_58 {v1 v2 v3 v4 v5 : Value} {l1 : Nat} {st : List Value} {im : IM} {rm : RM}  : ev 101 58 [.ref l1, v1, v2, v3, v4, v5] st im rm = ev 101 59 [.ref l1, v1, v2, v3, v4, v5] (.ref l1 :: st) (im) (rm) := ev_aload_n pm_m101 d101_58 rfl rfl
theorem d101_59 : decode prog_1_method_62_code 59 = .ok (.getfield 90, 3) := by decide +kernel
theorem s101_59 {v0 v1 v2 v3 v4 v5 : Value} {a : Nat} {st : List Value} {im : IM} {rm : RM} (hk : kd a = 17) : ev 101 59 [v0, v1, v2, v3, v4, v5] (.ref a :: st) im rm = ev 101 62 [v0, v1, v2, v3, v4, v5] (pm_ro (rm a 15) :: st) (im) (rm) := ev_getR pm_m101 d101_59 f7_90 rfl hk rfl
theorem d101_62 : decode prog_1_method_62_code 62 = .ok (.iload 5, 2) := by decide +kernel
theorem s101_62 {v0 v1 v2 v3 v4 : Value} {l1 : Int32} {st : List Value} {im : IM} {rm : RM}  : ev 101 62 [v0, v1, v2, v3, v4, .int l1] st im rm = ev 101 64 [v0, v1, v2, v3, v4, .int l1] (.int l1 :: st) (im) (rm) := ev_iload pm_m101 d101_62 rfl rfl
theorem d101_64 : decode prog_1_method_62_code 64 = .ok (.aaload, 1) := by decide +kernel
theorem s101_64 {v0 v1 v2 v3 v4 v5 : Value} {a : Nat} {i : Int32} {st : List Value} {im : IM} {rm : RM} (hk : 2 ≤ kd a ∧ kd a ≤ 5) (hi : pm_in i (ln a) = true) : ev 101 64 [v0, v1, v2, v3, v4, v5] (.int i :: .ref a :: st) im rm = ev 101 65 [v0, v1, v2, v3, v4, v5] (pm_ro (rm a i.toNatClampNeg) :: st) (im) (rm) := ev_aald pm_m101 d101_64 hk hi rfl
theorem d101_65 : decode prog_1_method_62_code 65 = .ok (.iload 4, 2) := by decide +kernel
theorem s101_65 {v0 v1 v2 v3 v5 : Value} {l1 : Int32} {st : List Value} {im : IM} {rm : RM}  : ev 101 65 [v0, v1, v2, v3, .int l1, v5] st im rm = ev 101 67 [v0, v1, v2, v3, .int l1, v5] (.int l1 :: st) (im) (rm) := ev_iload pm_m101 d101_65 rfl rfl
theorem d101_67 : decode prog_1_method_62_code 67 = .ok (.iaload, 1) := by decide +kernel
theorem s101_67 {v0 v1 v2 v3 v4 v5 : Value} {a : Nat} {i : Int32} {st : List Value} {im : IM} {rm : RM} (hk : kd a = 0) (hi : pm_in i (ln a) = true) : ev 101 67 [v0, v1, v2, v3, v4, v5] (.int i :: .ref a :: st) im rm = ev 101 68 [v0, v1, v2, v3, v4, v5] (.int (im a i.toNatClampNeg) :: st) (im) (rm) := ev_iald pm_m101 d101_67 hk hi rfl
theorem d101_68 : decode prog_1_method_62_code 68 = .ok (.i2l, 1) := by decide +kernel
theorem s101_68 {v0 v1 v2 v3 v4 v5 : Value} {x : Int32} {st : List Value} {im : IM} {rm : RM}  : ev 101 68 [v0, v1, v2, v3, v4, v5] (.int x :: st) im rm = ev 101 69 [v0, v1, v2, v3, v4, v5] (.long x.toInt64 :: st) (im) (rm) := ev_i2l pm_m101 d101_68 rfl
theorem d101_69 : decode prog_1_method_62_code 69 = .ok (.lmul, 1) := by decide +kernel
theorem s101_69 {v0 v1 v2 v3 v4 v5 : Value} {x : Int64} {y : Int64} {st : List Value} {im : IM} {rm : RM}  : ev 101 69 [v0, v1, v2, v3, v4, v5] (.long y :: .long x :: st) im rm = ev 101 70 [v0, v1, v2, v3, v4, v5] (.long (x * y) :: st) (im) (rm) := ev_lmul pm_m101 d101_69 rfl
theorem d101_70 : decode prog_1_method_62_code 70 = .ok (.ladd, 1) := by decide +kernel
theorem s101_70 {v0 v1 v2 v3 v4 v5 : Value} {x : Int64} {y : Int64} {st : List Value} {im : IM} {rm : RM}  : ev 101 70 [v0, v1, v2, v3, v4, v5] (.long y :: .long x :: st) im rm = ev 101 71 [v0, v1, v2, v3, v4, v5] (.long (x + y) :: st) (im) (rm) := ev_ladd pm_m101 d101_70 rfl
theorem d101_71 : decode prog_1_method_62_code 71 = .ok (.lstore_n 2, 1) := by decide +kernel
theorem s101_71 {v0 v2 v3 v4 v5 : Value} {l1 : Int32} {x2 : Int64} {st : List Value} {im : IM} {rm : RM}  : ev 101 71 [v0, .int l1, v2, v3, v4, v5] (.long x2 :: st) im rm = ev 101 72 [v0, .int l1, .long x2, pm_u, v4, v5] st (im) (rm) := ev_lstore_n pm_m101 d101_71 (Nat.le_of_ble_eq_true rfl) rfl rfl
theorem d101_72 : decode prog_1_method_62_code 72 = .ok (.iinc 5 1, 3) := by decide +kernel
theorem s101_72 {v0 v1 v2 v3 : Value} {l1 : Int32} {l2 : Int32} {st : List Value} {im : IM} {rm : RM}  : ev 101 72 [v0, v1, v2, v3, .int l1, .int l2] st im rm = ev 101 75 [v0, v1, v2, v3, .int l1, .int (l2 + nI 1)] st (im) (rm) := ev_iinc pm_m101 d101_72 rfl rfl rfl rfl
theorem d101_75 : decode prog_1_method_62_code 75 = .ok (.goto (-32), 3) := by decide +kernel
theorem s101_75 {v0 v1 v2 v3 v4 v5 : Value}  {st : List Value} {im : IM} {rm : RM}  : ev 101 75 [v0, v1, v2, v3, v4, v5] st im rm = ev 101 43 [v0, v1, v2, pm_u, v4, v5] st (im) (rm) := ev_goto pm_m101 d101_75 rfl rfl
theorem d101_78 : decode prog_1_method_62_code 78 = .ok (.iinc 4 1, 3) := by decide +kernel
theorem s101_78 {v0 v1 v2 v5 : Value} {l1 : Int32} {st : List Value} {im : IM} {rm : RM}  : ev 101 78 [v0, v1, v2, pm_u, .int l1, v5] st im rm = ev 101 81 [v0, v1, v2, pm_u, .int (l1 + nI 1), v5] st (im) (rm) := ev_iinc pm_m101 d101_78 rfl rfl rfl rfl
theorem d101_81 : decode prog_1_method_62_code 81 = .ok (.goto (-76), 3) := by decide +kernel
theorem s101_81 {v0 v1 v2 v3 v4 v5 : Value}  {st : List Value} {im : IM} {rm : RM}  : ev 101 81 [v0, v1, v2, v3, v4, v5] st im rm = ev 101 5 [v0, v1, v2, pm_u, v4, pm_u] st (im) (rm) := ev_goto pm_m101 d101_81 rfl rfl
theorem d101_84 : decode prog_1_method_62_code 84 = .ok (.lload_n 2, 1) := by decide +kernel
theorem s101_84 {v0 v1 v3 v4 v5 : Value} {l1 : Int64} {st : List Value} {im : IM} {rm : RM}  : ev 101 84 [v0, v1, .long l1, v3, v4, v5] st im rm = ev 101 85 [v0, v1, .long l1, v3, v4, v5] (.long l1 :: st) (im) (rm) := ev_lload_n pm_m101 d101_84 rfl rfl
theorem d101_85 : decode prog_1_method_62_code 85 = .ok (.lreturn, 1) := by decide +kernel
theorem s101_85 {v0 v1 v2 v3 v4 v5 : Value} {x : Int64} {im : IM} {rm : RM} : ev 101 85 [v0, v1, v2, v3, v4, v5] [.long x] im rm = some (some (.long x), im, rm) := ev_lreturn pm_m101 d101_85 rfl
theorem d102_0 : decode prog_1_method_63_code 0 = .ok (.lload_n 1, 1) := by decide +kernel
theorem s102_0 {v0 v2 : Value} {l1 : Int64} {st : List Value} {im : IM} {rm : RM}  : ev 102 0 [v0, .long l1, v2] st im rm = ev 102 1 [v0, .long l1, v2] (.long l1 :: st) (im) (rm) := ev_lload_n pm_m102 d102_0 rfl rfl
theorem d102_1 : decode prog_1_method_63_code 1 = .ok (.aload_n 0, 1) := by decide +kernel
theorem s102_1 {v1 v2 : Value} {l1 : Nat} {st : List Value} {im : IM} {rm : RM}  : ev 102 1 [.ref l1, v1, v2] st im rm = ev 102 2 [.ref l1, v1, v2] (.ref l1 :: st) (im) (rm) := ev_aload_n pm_m102 d102_1 rfl rfl
theorem d102_2 : decode prog_1_method_63_code 2 = .ok (.getfield 43, 3) := by decide +kernel
theorem s102_2 {v0 v1 v2 : Value} {a : Nat} {st : List Value} {im : IM} {rm : RM} (hk : kd a = 17) : ev 102 2 [v0, v1, v2] (.ref a :: st) im rm = ev 102 5 [v0, v1, v2] (pm_ro (rm a 5) :: st) (im) (rm) := ev_getR pm_m102 d102_2 f7_43 rfl hk rfl
theorem d102_5 : decode prog_1_method_63_code 5 = .ok (.iconst 3, 1) := by decide +kernel
theorem s102_5 {v0 v1 v2 : Value}  {st : List Value} {im : IM} {rm : RM}  : ev 102 5 [v0, v1, v2] st im rm = ev 102 6 [v0, v1, v2] (.int (nI 3) :: st) (im) (rm) := ev_iconst pm_m102 d102_5 rfl rfl
theorem d102_6 : decode prog_1_method_63_code 6 = .ok (.iaload, 1) := by decide +kernel
theorem s102_6 {v0 v1 v2 : Value} {a : Nat} {i : Int32} {st : List Value} {im : IM} {rm : RM} (hk : kd a = 0) (hi : pm_in i (ln a) = true) : ev 102 6 [v0, v1, v2] (.int i :: .ref a :: st) im rm = ev 102 7 [v0, v1, v2] (.int (im a i.toNatClampNeg) :: st) (im) (rm) := ev_iald pm_m102 d102_6 hk hi rfl
theorem d102_7 : decode prog_1_method_63_code 7 = .ok (.i2l, 1) := by decide +kernel
theorem s102_7 {v0 v1 v2 : Value} {x : Int32} {st : List Value} {im : IM} {rm : RM}  : ev 102 7 [v0, v1, v2] (.int x :: st) im rm = ev 102 8 [v0, v1, v2] (.long x.toInt64 :: st) (im) (rm) := ev_i2l pm_m102 d102_7 rfl
theorem d102_8 : decode prog_1_method_63_code 8 = .ok (.lmul, 1) := by decide +kernel
theorem s102_8 {v0 v1 v2 : Value} {x : Int64} {y : Int64} {st : List Value} {im : IM} {rm : RM}  : ev 102 8 [v0, v1, v2] (.long y :: .long x :: st) im rm = ev 102 9 [v0, v1, v2] (.long (x * y) :: st) (im) (rm) := ev_lmul pm_m102 d102_8 rfl
theorem d102_9 : decode prog_1_method_63_code 9 = .ok (.ldc2_w 385, 3) := by decide +kernel
theorem s102_9 {v0 v1 v2 : Value}  {st : List Value} {im : IM} {rm : RM}  : ev 102 9 [v0, v1, v2] st im rm = ev 102 12 [v0, v1, v2] (.long (lN 100) :: st) (im) (rm) := ev_ldc2 pm_m102 d102_9 (by decide +kernel) rfl
theorem d102_12 : decode prog_1_method_63_code 12 = .ok (.ldiv, 1) := by decide +kernel
theorem s102_12 {v0 v1 v2 : Value} {x : Int64} {y : Int64} {st : List Value} {im : IM} {rm : RM} (h0 : ¬ y = 0) : ev 102 12 [v0, v1, v2] (.long y :: .long x :: st) im rm = ev 102 13 [v0, v1, v2] (.long (x / y) :: st) (im) (rm) := ev_ldiv pm_m102 d102_12 h0 rfl
theorem d102_13 : decode prog_1_method_63_code 13 = .ok (.lreturn, 1) := by decide +kernel
theorem s102_13 {v0 v1 v2 : Value} {x : Int64} {im : IM} {rm : RM} : ev 102 13 [v0, v1, v2] [.long x] im rm = some (some (.long x), im, rm) := ev_lreturn pm_m102 d102_13 rfl
