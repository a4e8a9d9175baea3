theorem d174_0 : decode prog_11_method_59_code 0 = .ok (.iload_n 0, 1) := by decide +kernel
theorem s174_0 {l1 : Int32} {st : List Value} {im : IM} {rm : RM}  : ev 174 0 [.int l1] st im rm = ev 174 1 [.int l1] (.int l1 :: st) (im) (rm) := ev_iload_n pm_m174 d174_0 rfl rfl
theorem d174_1 : decode prog_11_method_59_code 1 = .ok (.ifCond .ge 8, 3) := by decide +kernel
theorem s174_1 {v0 : Value} {x : Int32} {st : List Value} {im : IM} {rm : RM} : ev 174 1 [v0] (.int x :: st) im rm = if nI 0 ≤ x then ev 174 9 [v0] st im rm else ev 174 4 [v0] st im rm := ev_if_ge (y := 0) pm_m174 d174_1 rfl rfl rfl
theorem d174_4 : decode prog_11_method_59_code 4 = .ok (.iload_n 0, 1) := by decide +kernel
theorem s174_4 {l1 : Int32} {st : List Value} {im : IM} {rm : RM}  : ev 174 4 [.int l1] st im rm = ev 174 5 [.int l1] (.int l1 :: st) (im) (rm) := ev_iload_n pm_m174 d174_4 rfl rfl
theorem d174_5 : decode prog_11_method_59_code 5 = .ok (.ineg, 1) := by decide +kernel
theorem s174_5 {v0 : Value} {x : Int32} {st : List Value} {im : IM} {rm : RM}  : ev 174 5 [v0] (.int x :: st) im rm = ev 174 6 [v0] (.int (-x) :: st) (im) (rm) := ev_ineg pm_m174 d174_5 rfl
theorem d174_6 : decode prog_11_method_59_code 6 = .ok (.goto 4, 3) := by decide +kernel
theorem s174_6 {v0 : Value}  {st : List Value} {im : IM} {rm : RM}  : ev 174 6 [v0] st im rm = ev 174 10 [pm_u] st (im) (rm) := ev_goto pm_m174 d174_6 rfl rfl
theorem d174_9 : decode prog_11_method_59_code 9 = .ok (.iload_n 0, 1) := by decide +kernel
theorem s174_9 {l1 : Int32} {st : List Value} {im : IM} {rm : RM}  : ev 174 9 [.int l1] st im rm = ev 174 10 [pm_u] (.int l1 :: st) (im) (rm) := ev_iload_n pm_m174 d174_9 rfl rfl
theorem d174_10 : decode prog_11_method_59_code 10 = .ok (.ireturn, 1) := by decide +kernel
theorem s174_10 {v0 : Value} {x : Int32} {im : IM} {rm : RM} : ev 174 10 [v0] [.int x] im rm = some (some (.int x), im, rm) := ev_ireturn pm_m174 d174_10 rfl
theorem d175_0 : decode prog_11_method_65_code 0 = .ok (.iload_n 0, 1) := by decide +kernel
theorem s175_0 {v1 : Value} {l1 : Int32} {st : List Value} {im : IM} {rm : RM}  : ev 175 0 [.int l1, v1] st im rm = ev 175 1 [.int l1, v1] (.int l1 :: st) (im) (rm) := ev_iload_n pm_m175 d175_0 rfl rfl
theorem d175_1 : decode prog_11_method_65_code 1 = .ok (.iload_n 1, 1) := by decide +kernel
theorem s175_1 {v0 : Value} {l1 : Int32} {st : List Value} {im : IM} {rm : RM}  : ev 175 1 [v0, .int l1] st im rm = ev 175 2 [v0, .int l1] (.int l1 :: st) (im) (rm) := ev_iload_n pm_m175 d175_1 rfl rfl
theorem d175_2 : decode prog_11_method_65_code 2 = .ok (.if_icmp .lt 7, 3) := by decide +kernel
theorem s175_2 {v0 v1 : Value} {x : Int32} {y : Int32} {st : List Value} {im : IM} {rm : RM} : ev 175 2 [v0, v1] (.int y :: .int x :: st) im rm = if x < y then ev 175 9 [pm_u, v1] st im rm else ev 175 5 [v0, v1] st im rm := ev_icmp_lt pm_m175 d175_2 rfl rfl rfl
theorem d175_5 : decode prog_11_method_65_code 5 = .ok (.iload_n 0, 1) := by decide +kernel
theorem s175_5 {v1 : Value} {l1 : Int32} {st : List Value} {im : IM} {rm : RM}  : ev 175 5 [.int l1, v1] st im rm = ev 175 6 [.int l1, v1] (.int l1 :: st) (im) (rm) := ev_iload_n pm_m175 d175_5 rfl rfl
theorem d175_6 : decode prog_11_method_65_code 6 = .ok (.goto 4, 3) := by decide +kernel
theorem s175_6 {v0 v1 : Value}  {st : List Value} {im : IM} {rm : RM}  : ev 175 6 [v0, v1] st im rm = ev 175 10 [pm_u, pm_u] st (im) (rm) := ev_goto pm_m175 d175_6 rfl rfl
theorem d175_9 : decode prog_11_method_65_code 9 = .ok (.iload_n 1, 1) := by decide +kernel
theorem s175_9 {v0 : Value} {l1 : Int32} {st : List Value} {im : IM} {rm : RM}  : ev 175 9 [v0, .int l1] st im rm = ev 175 10 [pm_u, pm_u] (.int l1 :: st) (im) (rm) := ev_iload_n pm_m175 d175_9 rfl rfl
theorem d175_10 : decode prog_11_method_65_code 10 = .ok (.ireturn, 1) := by decide +kernel
theorem s175_10 {v0 v1 : Value} {x : Int32} {im : IM} {rm : RM} : ev 175 10 [v0, v1] [.int x] im rm = some (some (.int x), im, rm) := ev_ireturn pm_m175 d175_10 rfl
theorem d176_0 : decode prog_11_method_69_code 0 = .ok (.iload_n 0, 1) := by decide +kernel
theorem s176_0 {v1 : Value} {l1 : Int32} {st : List Value} {im : IM} {rm : RM}  : ev 176 0 [.int l1, v1] st im rm = ev 176 1 [.int l1, v1] (.int l1 :: st) (im) (rm) := ev_iload_n pm_m176 d176_0 rfl rfl
theorem d176_1 : decode prog_11_method_69_code 1 = .ok (.iload_n 1, 1) := by decide +kernel
theorem s176_1 {v0 : Value} {l1 : Int32} {st : List Value} {im : IM} {rm : RM}  : ev 176 1 [v0, .int l1] st im rm = ev 176 2 [v0, .int l1] (.int l1 :: st) (im) (rm) := ev_iload_n pm_m176 d176_1 rfl rfl
theorem d176_2 : decode prog_11_method_69_code 2 = .ok (.if_icmp .gt 7, 3) := by decide +kernel
theorem s176_2 {v0 v1 : Value} {x : Int32} {y : Int32} {st : List Value} {im : IM} {rm : RM} : ev 176 2 [v0, v1] (.int y :: .int x :: st) im rm = if y < x then ev 176 9 [pm_u, v1] st im rm else ev 176 5 [v0, v1] st im rm := ev_icmp_gt pm_m176 d176_2 rfl rfl rfl
theorem d176_5 : decode prog_11_method_69_code 5 = .ok (.iload_n 0, 1) := by decide +kernel
theorem s176_5 {v1 : Value} {l1 : Int32} {st : List Value} {im : IM} {rm : RM}  : ev 176 5 [.int l1, v1] st im rm = ev 176 6 [.int l1, v1] (.int l1 :: st) (im) (rm) := ev_iload_n pm_m176 d176_5 rfl rfl
theorem d176_6 : decode prog_11_method_69_code 6 = .ok (.goto 4, 3) := by decide +kernel
theorem s176_6 {v0 v1 : Value}  {st : List Value} {im : IM} {rm : RM}  : ev 176 6 [v0, v1] st im rm = ev 176 10 [pm_u, pm_u] st (im) (rm) := ev_goto pm_m176 d176_6 rfl rfl
theorem d176_9 : decode prog_11_method_69_code 9 = .ok (.iload_n 1, 1) := by decide +kernel
theorem s176_9 {v0 : Value} {l1 : Int32} {st : List Value} {im : IM} {rm : RM}  : ev 176 9 [v0, .int l1] st im rm = ev 176 10 [pm_u, pm_u] (.int l1 :: st) (im) (rm) := ev_iload_n pm_m176 d176_9 rfl rfl
theorem d176_10 : decode prog_11_method_69_code 10 = .ok (.ireturn, 1) := by decide +kernel
theorem s176_10 {v0 v1 : Value} {x : Int32} {im : IM} {rm : RM} : ev 176 10 [v0, v1] [.int x] im rm = some (some (.int x), im, rm) := ev_ireturn pm_m176 d176_10 rfl
theorem d177_0 : decode prog_11_method_70_code 0 = .ok (.lload_n 0, 1) := by decide +kernel
theorem s177_0 {v1 v2 v3 : Value} {l1 : Int64} {st : List Value} {im : IM} {rm : RM}  : ev 177 0 [.long l1, v1, v2, v3] st im rm = ev 177 1 [.long l1, v1, v2, v3] (.long l1 :: st) (im) (rm) := ev_lload_n pm_m177 d177_0 rfl rfl
theorem d177_1 : decode prog_11_method_70_code 1 = .ok (.lload_n 2, 1) := by decide +kernel
theorem s177_1 {v0 v1 v3 : Value} {l1 : Int64} {st : List Value} {im : IM} {rm : RM}  : ev 177 1 [v0, v1, .long l1, v3] st im rm = ev 177 2 [v0, v1, .long l1, v3] (.long l1 :: st) (im) (rm) := ev_lload_n pm_m177 d177_1 rfl rfl
theorem d177_2 : decode prog_11_method_70_code 2 = .ok (.lcmp, 1) := by decide +kernel
theorem s177_2 {v0 v1 v2 v3 : Value} {x : Int64} {y : Int64} {st : List Value} {im : IM} {rm : RM}  : ev 177 2 [v0, v1, v2, v3] (.long y :: .long x :: st) im rm = ev 177 3 [v0, v1, v2, v3] (.int (lg_cmp x y) :: st) (im) (rm) := ev_lcmp pm_m177 d177_2 rfl
theorem d177_3 : decode prog_11_method_70_code 3 = .ok (.ifCond .gt 7, 3) := by decide +kernel
theorem s177_3 {v0 v1 v2 v3 : Value} {x : Int32} {st : List Value} {im : IM} {rm : RM} : ev 177 3 [v0, v1, v2, v3] (.int x :: st) im rm = if nI 0 < x then ev 177 10 [pm_u, pm_u, v2, pm_u] st im rm else ev 177 6 [v0, v1, v2, v3] st im rm := ev_if_gt (y := 0) pm_m177 d177_3 rfl rfl rfl
theorem d177_6 : decode prog_11_method_70_code 6 = .ok (.lload_n 0, 1) := by decide +kernel
theorem s177_6 {v1 v2 v3 : Value} {l1 : Int64} {st : List Value} {im : IM} {rm : RM}  : ev 177 6 [.long l1, v1, v2, v3] st im rm = ev 177 7 [.long l1, v1, v2, v3] (.long l1 :: st) (im) (rm) := ev_lload_n pm_m177 d177_6 rfl rfl
theorem d177_7 : decode prog_11_method_70_code 7 = .ok (.goto 4, 3) := by decide +kernel
theorem s177_7 {v0 v1 v2 v3 : Value}  {st : List Value} {im : IM} {rm : RM}  : ev 177 7 [v0, v1, v2, v3] st im rm = ev 177 11 [pm_u, pm_u, pm_u, pm_u] st (im) (rm) := ev_goto pm_m177 d177_7 rfl rfl
theorem d177_10 : decode prog_11_method_70_code 10 = .ok (.lload_n 2, 1) := by decide +kernel
theorem s177_10 {v0 v1 v3 : Value} {l1 : Int64} {st : List Value} {im : IM} {rm : RM}  : ev 177 10 [v0, v1, .long l1, v3] st im rm = ev 177 11 [pm_u, pm_u, pm_u, pm_u] (.long l1 :: st) (im) (rm) := ev_lload_n pm_m177 d177_10 rfl rfl
theorem d177_11 : decode prog_11_method_70_code 11 = .ok (.lreturn, 1) := by decide +kernel
theorem s177_11 {v0 v1 v2 v3 : Value} {x : Int64} {im : IM} {rm : RM} : ev 177 11 [v0, v1, v2, v3] [.long x] im rm = some (some (.long x), im, rm) := ev_lreturn pm_m177 d177_11 rfl
theorem d178_0 : decode prog_12_method_54_code 0 = .ok (.aload_n 0, 1) := by decide +kernel
theorem s178_0 {l1 : Nat} {st : List Value} {im : IM} {rm : RM}  : ev 178 0 [.ref l1] st im rm = ev 178 1 [.ref l1] (.ref l1 :: st) (im) (rm) := ev_aload_n pm_m178 d178_0 rfl rfl
theorem d178_1 : decode prog_12_method_54_code 1 = .ok (.getfield 9, 3) := by decide +kernel
theorem s178_1 {v0 : Value} {j : Nat} {st : List Value} {im : IM} {rm : RM} (hj : j < 18) (hk : kd (1000000 + j) = 99) : ev 178 1 [v0] (.ref (1000000 + j) :: st) im rm = ev 178 4 [v0] (.ref (1000000 + j + 100) :: st) (im) (rm) := ev_sval pm_m178 d178_1 rfl (by decide +kernel) hj hk rfl
theorem d178_4 : decode prog_12_method_54_code 4 = .ok (.arraylength, 1) := by decide +kernel
theorem s178_4 {v0 : Value} {j : Nat} {st : List Value} {im : IM} {rm : RM} (hj : j < 18) (hk : kd (1000000 + j + 100) = 99) : ev 178 4 [v0] (.ref (1000000 + j + 100) :: st) im rm = ev 178 5 [v0] (.int (nI (pm_stb j).length) :: st) (im) (rm) := ev_sblen pm_m178 d178_4 hj hk rfl
theorem d178_5 : decode prog_12_method_54_code 5 = .ok (.aload_n 0, 1) := by decide +kernel
theorem s178_5 {l1 : Nat} {st : List Value} {im : IM} {rm : RM}  : ev 178 5 [.ref l1] st im rm = ev 178 6 [.ref l1] (.ref l1 :: st) (im) (rm) := ev_aload_n pm_m178 d178_5 rfl rfl
theorem d178_6 : decode prog_12_method_54_code 6 = .ok (.invokevirtual 335, 3) := by decide +kernel
theorem s178_6 {v0 : Value} {j : Nat} {r1 : Int32} {im : IM} {rm : RM} (hj : j < 18) (hk : kd (1000000 + j) = 99) : ev 178 6 [v0] [.ref (1000000 + j), .int r1] im rm = (ev 180 0 [.ref (1000000 + j)] [] im rm).bind (fun r => ev 178 9 [v0] (r.1.toList ++ [.int r1]) r.2.1 r.2.2) := ev_callT pm_m178 d178_6 l11_335 rfl pm_m180 rfl hj hk rfl ⟨rfl, rfl⟩ rfl rfl
theorem d178_9 : decode prog_12_method_54_code 9 = .ok (.ishr, 1) := by decide +kernel
theorem s178_9 {v0 : Value} {x : Int32} {y : Int32} {st : List Value} {im : IM} {rm : RM}  : ev 178 9 [v0] (.int y :: .int x :: st) im rm = ev 178 10 [v0] (.int (x >>> (y &&& 31)) :: st) (im) (rm) := ev_ishr pm_m178 d178_9 rfl
theorem d178_10 : decode prog_12_method_54_code 10 = .ok (.ireturn, 1) := by decide +kernel
theorem s178_10 {v0 : Value} {x : Int32} {im : IM} {rm : RM} : ev 178 10 [v0] [.int x] im rm = some (some (.int x), im, rm) := ev_ireturn pm_m178 d178_10 rfl
theorem d179_0 : decode prog_12_method_56_code 0 = .ok (.aload_n 0, 1) := by decide +kernel
theorem s179_0 {v1 : Value} {l1 : Nat} {st : List Value} {im : IM} {rm : RM}  : ev 179 0 [.ref l1, v1] st im rm = ev 179 1 [.ref l1, v1] (.ref l1 :: st) (im) (rm) := ev_aload_n pm_m179 d179_0 rfl rfl
theorem d179_1 : decode prog_12_method_56_code 1 = .ok (.invokevirtual 492, 3) := by decide +kernel
theorem s179_1 {v0 v1 : Value} {j : Nat} {im : IM} {rm : RM} (hj : j < 18) (hk : kd (1000000 + j) = 99) : ev 179 1 [v0, v1] [.ref (1000000 + j)] im rm = (ev 181 0 [.ref (1000000 + j)] [] im rm).bind (fun r => ev 179 4 [v0, v1] (r.1.toList ++ []) r.2.1 r.2.2) := ev_callT pm_m179 d179_1 l11_492 rfl pm_m181 rfl hj hk rfl ⟨rfl, rfl⟩ rfl rfl
theorem d179_4 : decode prog_12_method_56_code 4 = .ok (.ifCond .eq 12, 3) := by decide +kernel
theorem s179_4 {v0 v1 : Value} {x : Int32} {st : List Value} {im : IM} {rm : RM} : ev 179 4 [v0, v1] (.int x :: st) im rm = if x = nI 0 then ev 179 16 [v0, v1] st im rm else ev 179 7 [v0, v1] st im rm := ev_if_eq (y := 0) pm_m179 d179_4 rfl rfl rfl
theorem d179_7 : decode prog_12_method_56_code 7 = .ok (.aload_n 0, 1) := by decide +kernel
theorem s179_7 {v1 : Value} {l1 : Nat} {st : List Value} {im : IM} {rm : RM}  : ev 179 7 [.ref l1, v1] st im rm = ev 179 8 [.ref l1, v1] (.ref l1 :: st) (im) (rm) := ev_aload_n pm_m179 d179_7 rfl rfl
theorem d179_8 : decode prog_12_method_56_code 8 = .ok (.getfield 9, 3) := by decide +kernel
theorem s179_8 {v0 v1 : Value} {j : Nat} {st : List Value} {im : IM} {rm : RM} (hj : j < 18) (hk : kd (1000000 + j) = 99) : ev 179 8 [v0, v1] (.ref (1000000 + j) :: st) im rm = ev 179 11 [v0, v1] (.ref (1000000 + j + 100) :: st) (im) (rm) := ev_sval pm_m179 d179_8 rfl (by decide +kernel) hj hk rfl
theorem d179_11 : decode prog_12_method_56_code 11 = .ok (.iload_n 1, 1) := by decide +kernel
theorem s179_11 {v0 : Value} {l1 : Int32} {st : List Value} {im : IM} {rm : RM}  : ev 179 11 [v0, .int l1] st im rm = ev 179 12 [v0, .int l1] (.int l1 :: st) (im) (rm) := ev_iload_n pm_m179 d179_11 rfl rfl
theorem d179_12 : decode prog_12_method_56_code 12 = .ok (.invokestatic 495, 3) := by decide +kernel
theorem s179_12 {v0 v1 : Value} {p1 : Nat} {p2 : Int32} {im : IM} {rm : RM}  : ev 179 12 [v0, v1] [.int p2, .ref p1] im rm = (ev 183 0 [.ref p1, .int p2] [] im rm).bind (fun r => ev 179 15 [v0, v1] (r.1.toList ++ []) r.2.1 r.2.2) := ev_callS pm_m179 d179_12 (by decide) l11_495 rfl pm_m183 rfl ⟨rfl, rfl⟩ rfl rfl
theorem d179_15 : decode prog_12_method_56_code 15 = .ok (.ireturn, 1) := by decide +kernel
theorem s179_15 {v0 v1 : Value} {x : Int32} {im : IM} {rm : RM} (hx : 0 ≤ x ∧ x ≤ 255) : ev 179 15 [v0, v1] [.int x] im rm = some (some (.int x), im, rm) := ev_creturn pm_m179 d179_15 rfl hx
theorem d179_16 : decode prog_12_method_56_code 16 = .ok (.aload_n 0, 1) := by decide +kernel
theorem s179_16 {v1 : Value} {l1 : Nat} {st : List Value} {im : IM} {rm : RM}  : ev 179 16 [.ref l1, v1] st im rm = ev 179 17 [.ref l1, v1] (.ref l1 :: st) (im) (rm) := ev_aload_n pm_m179 d179_16 rfl rfl
theorem d179_17 : decode prog_12_method_56_code 17 = .ok (.getfield 9, 3) := by decide +kernel
theorem s179_17 {v0 v1 : Value} {j : Nat} {st : List Value} {im : IM} {rm : RM} (hj : j < 18) (hk : kd (1000000 + j) = 99) : ev 179 17 [v0, v1] (.ref (1000000 + j) :: st) im rm = ev 179 20 [v0, v1] (.ref (1000000 + j + 100) :: st) (im) (rm) := ev_sval pm_m179 d179_17 rfl (by decide +kernel) hj hk rfl
theorem d179_20 : decode prog_12_method_56_code 20 = .ok (.iload_n 1, 1) := by decide +kernel
theorem s179_20 {v0 : Value} {l1 : Int32} {st : List Value} {im : IM} {rm : RM}  : ev 179 20 [v0, .int l1] st im rm = ev 179 21 [v0, .int l1] (.int l1 :: st) (im) (rm) := ev_iload_n pm_m179 d179_20 rfl rfl
theorem d180_0 : decode prog_12_method_152_code 0 = .ok (.getstatic 38, 3) := by decide +kernel
theorem s180_0 {v0 : Value}  {st : List Value} {im : IM} {rm : RM}  : ev 180 0 [v0] st im rm = ev 180 3 [v0] (.int 1 :: st) (im) (rm) := ev_gets pm_m180 d180_0 rfl rfl
theorem d180_3 : decode prog_12_method_152_code 3 = .ok (.ifCond .eq 10, 3) := by decide +kernel
theorem s180_3 {v0 : Value} {x : Int32} {st : List Value} {im : IM} {rm : RM} : ev 180 3 [v0] (.int x :: st) im rm = if x = nI 0 then ev 180 13 [pm_u] st im rm else ev 180 6 [v0] st im rm := ev_if_eq (y := 0) pm_m180 d180_3 rfl rfl rfl
theorem d180_6 : decode prog_12_method_152_code 6 = .ok (.aload_n 0, 1) := by decide +kernel
theorem s180_6 {l1 : Nat} {st : List Value} {im : IM} {rm : RM}  : ev 180 6 [.ref l1] st im rm = ev 180 7 [.ref l1] (.ref l1 :: st) (im) (rm) := ev_aload_n pm_m180 d180_6 rfl rfl
theorem d180_7 : decode prog_12_method_152_code 7 = .ok (.getfield 15, 3) := by decide +kernel
theorem s180_7 {v0 : Value} {j : Nat} {st : List Value} {im : IM} {rm : RM} (hj : j < 18) (hk : kd (1000000 + j) = 99) : ev 180 7 [v0] (.ref (1000000 + j) :: st) im rm = ev 180 10 [v0] (.int 0 :: st) (im) (rm) := ev_scod pm_m180 d180_7 rfl (by decide +kernel) hj hk rfl
theorem d180_10 : decode prog_12_method_152_code 10 = .ok (.goto 4, 3) := by decide +kernel
theorem s180_10 {v0 : Value}  {st : List Value} {im : IM} {rm : RM}  : ev 180 10 [v0] st im rm = ev 180 14 [pm_u] st (im) (rm) := ev_goto pm_m180 d180_10 rfl rfl
theorem d180_13 : decode prog_12_method_152_code 13 = .ok (.iconst 1, 1) := by decide +kernel
theorem s180_13 {v0 : Value}  {st : List Value} {im : IM} {rm : RM}  : ev 180 13 [v0] st im rm = ev 180 14 [pm_u] (.int (nI 1) :: st) (im) (rm) := ev_iconst pm_m180 d180_13 rfl rfl
theorem d180_14 : decode prog_12_method_152_code 14 = .ok (.ireturn, 1) := by decide +kernel
theorem s180_14 {v0 : Value} {im : IM} {rm : RM} : ev 180 14 [v0] [.int 0] im rm = some (some (.int 0), im, rm) := ev_breturn pm_m180 d180_14 rfl
theorem d181_0 : decode prog_12_method_154_code 0 = .ok (.getstatic 38, 3) := by decide +kernel
theorem s181_0 {v0 : Value}  {st : List Value} {im : IM} {rm : RM}  : ev 181 0 [v0] st im rm = ev 181 3 [v0] (.int 1 :: st) (im) (rm) := ev_gets pm_m181 d181_0 rfl rfl
theorem d181_3 : decode prog_12_method_154_code 3 = .ok (.ifCond .eq 14, 3) := by decide +kernel
theorem s181_3 {v0 : Value} {x : Int32} {st : List Value} {im : IM} {rm : RM} : ev 181 3 [v0] (.int x :: st) im rm = if x = nI 0 then ev 181 17 [pm_u] st im rm else ev 181 6 [v0] st im rm := ev_if_eq (y := 0) pm_m181 d181_3 rfl rfl rfl
theorem d181_6 : decode prog_12_method_154_code 6 = .ok (.aload_n 0, 1) := by decide +kernel
theorem s181_6 {l1 : Nat} {st : List Value} {im : IM} {rm : RM}  : ev 181 6 [.ref l1] st im rm = ev 181 7 [.ref l1] (.ref l1 :: st) (im) (rm) := ev_aload_n pm_m181 d181_6 rfl rfl
theorem d181_7 : decode prog_12_method_154_code 7 = .ok (.getfield 15, 3) := by decide +kernel
theorem s181_7 {v0 : Value} {j : Nat} {st : List Value} {im : IM} {rm : RM} (hj : j < 18) (hk : kd (1000000 + j) = 99) : ev 181 7 [v0] (.ref (1000000 + j) :: st) im rm = ev 181 10 [v0] (.int 0 :: st) (im) (rm) := ev_scod pm_m181 d181_7 rfl (by decide +kernel) hj hk rfl
theorem d181_10 : decode prog_12_method_154_code 10 = .ok (.ifCond .ne 7, 3) := by decide +kernel
theorem s181_10 {v0 : Value} {x : Int32} {st : List Value} {im : IM} {rm : RM} : ev 181 10 [v0] (.int x :: st) im rm = if x = nI 0 then ev 181 13 [v0] st im rm else ev 181 17 [pm_u] st im rm := ev_if_ne (y := 0) pm_m181 d181_10 rfl rfl rfl
theorem d181_13 : decode prog_12_method_154_code 13 = .ok (.iconst 1, 1) := by decide +kernel
theorem s181_13 {v0 : Value}  {st : List Value} {im : IM} {rm : RM}  : ev 181 13 [v0] st im rm = ev 181 14 [v0] (.int (nI 1) :: st) (im) (rm) := ev_iconst pm_m181 d181_13 rfl rfl
theorem d181_14 : decode prog_12_method_154_code 14 = .ok (.goto 4, 3) := by decide +kernel
theorem s181_14 {v0 : Value}  {st : List Value} {im : IM} {rm : RM}  : ev 181 14 [v0] st im rm = ev 181 18 [pm_u] st (im) (rm) := ev_goto pm_m181 d181_14 rfl rfl
theorem d181_17 : decode prog_12_method_154_code 17 = .ok (.iconst 0, 1) := by decide +kernel
theorem s181_17 {v0 : Value}  {st : List Value} {im : IM} {rm : RM}  : ev 181 17 [v0] st im rm = ev 181 18 [pm_u] (.int (nI 0) :: st) (im) (rm) := ev_iconst pm_m181 d181_17 rfl rfl
theorem d181_18 : decode prog_12_method_154_code 18 = .ok (.ireturn, 1) := by decide +kernel
theorem s181_18 {v0 : Value} {x : Int32} {im : IM} {rm : RM} (hx : x = 0 ∨ x = 1) : ev 181 18 [v0] [.int x] im rm = some (some (.int x), im, rm) := ev_zreturn pm_m181 d181_18 rfl hx
theorem d182_0 : decode prog_12_method_155_code 0 = .ok (.iload_n 0, 1) := by decide +kernel
theorem s182_0 {v1 : Value} {l1 : Int32} {st : List Value} {im : IM} {rm : RM}  : ev 182 0 [.int l1, v1] st im rm = ev 182 1 [.int l1, v1] (.int l1 :: st) (im) (rm) := ev_iload_n pm_m182 d182_0 rfl rfl
theorem d182_1 : decode prog_12_method_155_code 1 = .ok (.iload_n 1, 1) := by decide +kernel
theorem s182_1 {v0 : Value} {l1 : Int32} {st : List Value} {im : IM} {rm : RM}  : ev 182 1 [v0, .int l1] st im rm = ev 182 2 [v0, .int l1] (.int l1 :: st) (im) (rm) := ev_iload_n pm_m182 d182_1 rfl rfl
theorem d182_2 : decode prog_12_method_155_code 2 = .ok (.getstatic 1053, 3) := by decide +kernel
theorem s182_2 {v0 v1 : Value}  {st : List Value} {im : IM} {rm : RM}  : ev 182 2 [v0, v1] st im rm = ev 182 5 [v0, v1] (pm_z :: st) (im) (rm) := ev_gets pm_m182 d182_2 rfl rfl
theorem d182_5 : decode prog_12_method_155_code 5 = .ok (.invokestatic 1059, 3) := by decide +kernel
theorem s182_5 {v0 v1 : Value} {p1 : Int32} {p2 : Int32} {im : IM} {rm : RM}  : ev 182 5 [v0, v1] [pm_z, .int p2, .int p1] im rm = (ev 185 0 [.int p1, .int p2, pm_z] [] im rm).bind (fun r => ev 182 8 [v0, v1] (r.1.toList ++ []) r.2.1 r.2.2) := ev_callS pm_m182 d182_5 (by decide) l11_1059 rfl pm_m185 rfl ⟨rfl, rfl⟩ rfl rfl
theorem d182_8 : decode prog_12_method_155_code 8 = .ok (.pop, 1) := by decide +kernel
theorem s182_8 {v0 v1 : Value} {x : Int32} {st : List Value} {im : IM} {rm : RM}  : ev 182 8 [v0, v1] (.int x :: st) im rm = ev 182 9 [v0, v1] st (im) (rm) := ev_pop pm_m182 d182_8 rfl
theorem d182_9 : decode prog_12_method_155_code 9 = .ok (.return_, 1) := by decide +kernel
theorem s182_9 {v0 v1 : Value} {im : IM} {rm : RM} : ev 182 9 [v0, v1] [] im rm = some (none, im, rm) := ev_return pm_m182 d182_9 rfl
theorem d183_0 : decode prog_13_method_2_code 0 = .ok (.iload_n 1, 1) := by decide +kernel
theorem s183_0 {v0 : Value} {l1 : Int32} {st : List Value} {im : IM} {rm : RM}  : ev 183 0 [v0, .int l1] st im rm = ev 183 1 [v0, .int l1] (.int l1 :: st) (im) (rm) := ev_iload_n pm_m183 d183_0 rfl rfl
theorem d183_1 : decode prog_13_method_2_code 1 = .ok (.aload_n 0, 1) := by decide +kernel
theorem s183_1 {v1 : Value} {l1 : Nat} {st : List Value} {im : IM} {rm : RM}  : ev 183 1 [.ref l1, v1] st im rm = ev 183 2 [.ref l1, v1] (.ref l1 :: st) (im) (rm) := ev_aload_n pm_m183 d183_1 rfl rfl
theorem d183_2 : decode prog_13_method_2_code 2 = .ok (.arraylength, 1) := by decide +kernel
theorem s183_2 {v0 v1 : Value} {j : Nat} {st : List Value} {im : IM} {rm : RM} (hj : j < 18) (hk : kd (1000000 + j + 100) = 99) : ev 183 2 [v0, v1] (.ref (1000000 + j + 100) :: st) im rm = ev 183 3 [v0, v1] (.int (nI (pm_stb j).length) :: st) (im) (rm) := ev_sblen pm_m183 d183_2 hj hk rfl
theorem d183_3 : decode prog_13_method_2_code 3 = .ok (.invokestatic 9, 3) := by decide +kernel
theorem s183_3 {v0 v1 : Value} {p1 : Int32} {p2 : Int32} {im : IM} {rm : RM}  : ev 183 3 [v0, v1] [.int p2, .int p1] im rm = (ev 182 0 [.int p1, .int p2] [] im rm).bind (fun r => ev 183 6 [v0, v1] (r.1.toList ++ []) r.2.1 r.2.2) := ev_callS pm_m183 d183_3 (by decide) l12_9 rfl pm_m182 rfl ⟨rfl, rfl⟩ rfl rfl
theorem d183_6 : decode prog_13_method_2_code 6 = .ok (.aload_n 0, 1) := by decide +kernel
theorem s183_6 {v1 : Value} {l1 : Nat} {st : List Value} {im : IM} {rm : RM}  : ev 183 6 [.ref l1, v1] st im rm = ev 183 7 [.ref l1, v1] (.ref l1 :: st) (im) (rm) := ev_aload_n pm_m183 d183_6 rfl rfl
theorem d183_7 : decode prog_13_method_2_code 7 = .ok (.iload_n 1, 1) := by decide +kernel
theorem s183_7 {v0 : Value} {l1 : Int32} {st : List Value} {im : IM} {rm : RM}  : ev 183 7 [v0, .int l1] st im rm = ev 183 8 [v0, .int l1] (.int l1 :: st) (im) (rm) := ev_iload_n pm_m183 d183_7 rfl rfl
theorem d183_8 : decode prog_13_method_2_code 8 = .ok (.baload, 1) := by decide +kernel
theorem s183_8 {v0 v1 : Value} {j : Nat} {i : Int32} {st : List Value} {im : IM} {rm : RM} (hj : j < 18) (hk : kd (1000000 + j + 100) = 99) (hi : pm_in i (pm_stb j).length = true) : ev 183 8 [v0, v1] (.int i :: .ref (1000000 + j + 100) :: st) im rm = ev 183 9 [v0, v1] (.int ((pm_stb j).getD i.toNatClampNeg 0) :: st) (im) (rm) := ev_sbld pm_m183 d183_8 hj hk hi rfl
theorem d183_9 : decode prog_13_method_2_code 9 = .ok (.sipush 255, 3) := by decide +kernel
theorem s183_9 {v0 v1 : Value}  {st : List Value} {im : IM} {rm : RM}  : ev 183 9 [v0, v1] st im rm = ev 183 12 [v0, v1] (.int (nI 255) :: st) (im) (rm) := ev_sipush pm_m183 d183_9 rfl rfl
theorem d183_12 : decode prog_13_method_2_code 12 = .ok (.iand, 1) := by decide +kernel
theorem s183_12 {v0 v1 : Value} {x : Int32} {y : Int32} {st : List Value} {im : IM} {rm : RM}  : ev 183 12 [v0, v1] (.int y :: .int x :: st) im rm = ev 183 13 [v0, v1] (.int (x &&& y) :: st) (im) (rm) := ev_iand pm_m183 d183_12 rfl
theorem d183_13 : decode prog_13_method_2_code 13 = .ok (.i2c, 1) := by decide +kernel
theorem s183_13 {v0 v1 : Value} {x : Int32} {st : List Value} {im : IM} {rm : RM}  : ev 183 13 [v0, v1] (.int x :: st) im rm = ev 183 14 [v0, v1] (.int (x.toUInt32 % 65536).toInt32 :: st) (im) (rm) := ev_i2c pm_m183 d183_13 rfl
theorem d183_14 : decode prog_13_method_2_code 14 = .ok (.ireturn, 1) := by decide +kernel
theorem s183_14 {v0 v1 : Value} {x : Int32} {im : IM} {rm : RM} (hx : 0 ≤ x ∧ x ≤ 255) : ev 183 14 [v0, v1] [.int x] im rm = some (some (.int x), im, rm) := ev_creturn pm_m183 d183_14 rfl hx
theorem d184_0 : decode prog_16_method_103_code 0 = .ok (.iconst 0, 1) := by decide +kernel
theorem s184_0 {v0 v1 v2 v3 : Value}  {st : List Value} {im : IM} {rm : RM}  : ev 184 0 [v0, v1, v2, v3] st im rm = ev 184 1 [v0, v1, v2, v3] (.int (nI 0) :: st) (im) (rm) := ev_iconst pm_m184 d184_0 rfl rfl
theorem d184_1 : decode prog_16_method_103_code 1 = .ok (.istore_n 2, 1) := by decide +kernel
theorem s184_1 {v0 v2 v3 : Value} {l1 : Int32} {x2 : Int32} {st : List Value} {im : IM} {rm : RM}  : ev 184 1 [v0, .int l1, v2, v3] (.int x2 :: st) im rm = ev 184 2 [v0, .int l1, .int x2, v3] st (im) (rm) := ev_istore_n pm_m184 d184_1 (Nat.le_of_ble_eq_true rfl) rfl rfl
theorem d184_2 : decode prog_16_method_103_code 2 = .ok (.aload_n 0, 1) := by decide +kernel
theorem s184_2 {v1 v2 v3 : Value} {l1 : Nat} {st : List Value} {im : IM} {rm : RM}  : ev 184 2 [.ref l1, v1, v2, v3] st im rm = ev 184 3 [.ref l1, v1, v2, v3] (.ref l1 :: st) (im) (rm) := ev_aload_n pm_m184 d184_2 rfl rfl
theorem d184_3 : decode prog_16_method_103_code 3 = .ok (.arraylength, 1) := by decide +kernel
theorem s184_3 {v0 v1 v2 v3 : Value} {a : Nat} {st : List Value} {im : IM} {rm : RM} (hk : kd a ≤ 5) : ev 184 3 [v0, v1, v2, v3] (.ref a :: st) im rm = ev 184 4 [v0, v1, v2, v3] (.int (nI (ln a)) :: st) (im) (rm) := ev_alen pm_m184 d184_3 hk rfl
theorem d184_4 : decode prog_16_method_103_code 4 = .ok (.istore_n 3, 1) := by decide +kernel
theorem s184_4 {v0 v1 v3 : Value} {l1 : Int32} {x2 : Int32} {st : List Value} {im : IM} {rm : RM}  : ev 184 4 [v0, v1, .int l1, v3] (.int x2 :: st) im rm = ev 184 5 [v0, v1, .int l1, .int x2] st (im) (rm) := ev_istore_n pm_m184 d184_4 (Nat.le_of_ble_eq_true rfl) rfl rfl
theorem d184_5 : decode prog_16_method_103_code 5 = .ok (.iload_n 2, 1) := by decide +kernel
theorem s184_5 {v0 v1 v3 : Value} {l1 : Int32} {st : List Value} {im : IM} {rm : RM}  : ev 184 5 [v0, v1, .int l1, v3] st im rm = ev 184 6 [v0, v1, .int l1, v3] (.int l1 :: st) (im) (rm) := ev_iload_n pm_m184 d184_5 rfl rfl
theorem d184_6 : decode prog_16_method_103_code 6 = .ok (.iload_n 3, 1) := by decide +kernel
theorem s184_6 {v0 v1 v2 : Value} {l1 : Int32} {st : List Value} {im : IM} {rm : RM}  : ev 184 6 [v0, v1, v2, .int l1] st im rm = ev 184 7 [v0, v1, v2, .int l1] (.int l1 :: st) (im) (rm) := ev_iload_n pm_m184 d184_6 rfl rfl
theorem d184_7 : decode prog_16_method_103_code 7 = .ok (.if_icmp .ge 13, 3) := by decide +kernel
theorem s184_7 {v0 v1 v2 v3 : Value} {x : Int32} {y : Int32} {st : List Value} {im : IM} {rm : RM} : ev 184 7 [v0, v1, v2, v3] (.int y :: .int x :: st) im rm = if y ≤ x then ev 184 20 [pm_u, pm_u, pm_u, pm_u] st im rm else ev 184 10 [v0, v1, v2, v3] st im rm := ev_icmp_ge pm_m184 d184_7 rfl rfl rfl
theorem d184_10 : decode prog_16_method_103_code 10 = .ok (.aload_n 0, 1) := by decide +kernel
theorem s184_10 {v1 v2 v3 : Value} {l1 : Nat} {st : List Value} {im : IM} {rm : RM}  : ev 184 10 [.ref l1, v1, v2, v3] st im rm = ev 184 11 [.ref l1, v1, v2, v3] (.ref l1 :: st) (im) (rm) := ev_aload_n pm_m184 d184_10 rfl rfl
theorem d184_11 : decode prog_16_method_103_code 11 = .ok (.iload_n 2, 1) := by decide +kernel
theorem s184_11 {v0 v1 v3 : Value} {l1 : Int32} {st : List Value} {im : IM} {rm : RM}  : ev 184 11 [v0, v1, .int l1, v3] st im rm = ev 184 12 [v0, v1, .int l1, v3] (.int l1 :: st) (im) (rm) := ev_iload_n pm_m184 d184_11 rfl rfl
theorem d184_12 : decode prog_16_method_103_code 12 = .ok (.iload_n 1, 1) := by decide +kernel
theorem s184_12 {v0 v2 v3 : Value} {l1 : Int32} {st : List Value} {im : IM} {rm : RM}  : ev 184 12 [v0, .int l1, v2, v3] st im rm = ev 184 13 [v0, .int l1, v2, v3] (.int l1 :: st) (im) (rm) := ev_iload_n pm_m184 d184_12 rfl rfl
theorem d184_13 : decode prog_16_method_103_code 13 = .ok (.iastore, 1) := by decide +kernel
theorem s184_13 {v0 v1 v2 v3 : Value} {a : Nat} {i : Int32} {v : Int32} {st : List Value} {im : IM} {rm : RM} (hk : kd a = 0) (hi : pm_in i (ln a) = true) : ev 184 13 [v0, v1, v2, v3] (.int v :: .int i :: .ref a :: st) im rm = ev 184 14 [v0, v1, v2, v3] st (pm_w2 im a i.toNatClampNeg v) (rm) := ev_iast pm_m184 d184_13 hk hi rfl
theorem d184_14 : decode prog_16_method_103_code 14 = .ok (.iinc 2 1, 3) := by decide +kernel
theorem s184_14 {v0 v3 : Value} {l1 : Int32} {l2 : Int32} {st : List Value} {im : IM} {rm : RM}  : ev 184 14 [v0, .int l1, .int l2, v3] st im rm = ev 184 17 [v0, .int l1, .int (l2 + nI 1), v3] st (im) (rm) := ev_iinc pm_m184 d184_14 rfl rfl rfl rfl
theorem d184_17 : decode prog_16_method_103_code 17 = .ok (.goto (-12), 3) := by decide +kernel
theorem s184_17 {v0 v1 v2 v3 : Value}  {st : List Value} {im : IM} {rm : RM}  : ev 184 17 [v0, v1, v2, v3] st im rm = ev 184 5 [v0, v1, v2, v3] st (im) (rm) := ev_goto pm_m184 d184_17 rfl rfl
theorem d184_20 : decode prog_16_method_103_code 20 = .ok (.return_, 1) := by decide +kernel
theorem s184_20 {v0 v1 v2 v3 : Value} {im : IM} {rm : RM} : ev 184 20 [v0, v1, v2, v3] [] im rm = some (none, im, rm) := ev_return pm_m184 d184_20 rfl
theorem d185_0 : decode prog_17_method_11_code 0 = .ok (.iload_n 0, 1) := by decide +kernel
theorem s185_0 {v1 v2 : Value} {l1 : Int32} {st : List Value} {im : IM} {rm : RM}  : ev 185 0 [.int l1, v1, v2] st im rm = ev 185 1 [.int l1, v1, v2] (.int l1 :: st) (im) (rm) := ev_iload_n pm_m185 d185_0 rfl rfl
theorem d185_1 : decode prog_17_method_11_code 1 = .ok (.ifCond .lt 8, 3) := by decide +kernel
theorem s185_1 {v0 v1 v2 : Value} {x : Int32} {st : List Value} {im : IM} {rm : RM} : ev 185 1 [v0, v1, v2] (.int x :: st) im rm = if x < nI 0 then ev 185 9 [v0, v1, v2] st im rm else ev 185 4 [v0, v1, v2] st im rm := ev_if_lt (y := 0) pm_m185 d185_1 rfl rfl rfl
theorem d185_4 : decode prog_17_method_11_code 4 = .ok (.iload_n 0, 1) := by decide +kernel
theorem s185_4 {v1 v2 : Value} {l1 : Int32} {st : List Value} {im : IM} {rm : RM}  : ev 185 4 [.int l1, v1, v2] st im rm = ev 185 5 [.int l1, v1, v2] (.int l1 :: st) (im) (rm) := ev_iload_n pm_m185 d185_4 rfl rfl
theorem d185_5 : decode prog_17_method_11_code 5 = .ok (.iload_n 1, 1) := by decide +kernel
theorem s185_5 {v0 v2 : Value} {l1 : Int32} {st : List Value} {im : IM} {rm : RM}  : ev 185 5 [v0, .int l1, v2] st im rm = ev 185 6 [v0, .int l1, v2] (.int l1 :: st) (im) (rm) := ev_iload_n pm_m185 d185_5 rfl rfl
theorem d185_6 : decode prog_17_method_11_code 6 = .ok (.if_icmp .lt 10, 3) := by decide +kernel
theorem s185_6 {v0 v1 v2 : Value} {x : Int32} {y : Int32} {st : List Value} {im : IM} {rm : RM} : ev 185 6 [v0, v1, v2] (.int y :: .int x :: st) im rm = if x < y then ev 185 16 [v0, pm_u, pm_u] st im rm else ev 185 9 [v0, v1, v2] st im rm := ev_icmp_lt pm_m185 d185_6 rfl rfl rfl
theorem d185_9 : decode prog_17_method_11_code 9 = .ok (.aload_n 2, 1) := by decide +kernel
theorem s185_9 {v0 v1 : Value} {l1 : Nat} {st : List Value} {im : IM} {rm : RM}  : ev 185 9 [v0, v1, .ref l1] st im rm = ev 185 10 [v0, v1, .ref l1] (.ref l1 :: st) (im) (rm) := ev_aload_n pm_m185 d185_9 rfl rfl
theorem d185_10 : decode prog_17_method_11_code 10 = .ok (.iload_n 0, 1) := by decide +kernel
theorem s185_10 {v1 v2 : Value} {l1 : Int32} {st : List Value} {im : IM} {rm : RM}  : ev 185 10 [.int l1, v1, v2] st im rm = ev 185 11 [.int l1, v1, v2] (.int l1 :: st) (im) (rm) := ev_iload_n pm_m185 d185_10 rfl rfl
theorem d185_11 : decode prog_17_method_11_code 11 = .ok (.iload_n 1, 1) := by decide +kernel
theorem s185_11 {v0 v2 : Value} {l1 : Int32} {st : List Value} {im : IM} {rm : RM}  : ev 185 11 [v0, .int l1, v2] st im rm = ev 185 12 [v0, .int l1, v2] (.int l1 :: st) (im) (rm) := ev_iload_n pm_m185 d185_11 rfl rfl
theorem d185_16 : decode prog_17_method_11_code 16 = .ok (.iload_n 0, 1) := by decide +kernel
theorem s185_16 {v1 v2 : Value} {l1 : Int32} {st : List Value} {im : IM} {rm : RM}  : ev 185 16 [.int l1, v1, v2] st im rm = ev 185 17 [.int l1, v1, v2] (.int l1 :: st) (im) (rm) := ev_iload_n pm_m185 d185_16 rfl rfl
theorem d185_17 : decode prog_17_method_11_code 17 = .ok (.ireturn, 1) := by decide +kernel
theorem s185_17 {v0 v1 v2 : Value} {x : Int32} {im : IM} {rm : RM} : ev 185 17 [v0, v1, v2] [.int x] im rm = some (some (.int x), im, rm) := ev_ireturn pm_m185 d185_17 rfl
