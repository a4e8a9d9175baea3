theorem d0_16 : decode code 16 = .ok (.iconst 0, 1) := by decide +kernel
theorem s0_16 {X : Nat × (Nat → Int32)} {v0 v1 v2 v3 : Value}  {st : List Value} {im : IM} {rm : RM}  : evL X 16 [v0, v1, v2, v3] st im rm = evL X 17 [v0, v1, v2, v3] (.int (nI 0) :: st) (im) (rm) := evL_iconst pm_m0 d0_16 rfl rfl
theorem d0_17 : decode code 17 = .ok (.istore_n 3, 1) := by decide +kernel
theorem s0_17 {X : Nat × (Nat → Int32)} {v0 v1 v3 : Value} {l1 : Nat} {x2 : Int32} {st : List Value} {im : IM} {rm : RM}  : evL X 17 [v0, v1, .ref l1, v3] (.int x2 :: st) im rm = evL X 18 [v0, v1, .ref l1, .int x2] st (im) (rm) := evL_istore_n pm_m0 d0_17 (Nat.le_of_ble_eq_true rfl) rfl rfl
theorem d0_18 : decode code 18 = .ok (.iload_n 3, 1) := by decide +kernel
theorem s0_18 {X : Nat × (Nat → Int32)} {v0 v1 v2 : Value} {l1 : Int32} {st : List Value} {im : IM} {rm : RM}  : evL X 18 [v0, v1, v2, .int l1] st im rm = evL X 19 [v0, v1, v2, .int l1] (.int l1 :: st) (im) (rm) := evL_iload_n pm_m0 d0_18 rfl rfl
theorem d0_19 : decode code 19 = .ok (.aload_n 0, 1) := by decide +kernel
theorem s0_19 {X : Nat × (Nat → Int32)} {v1 v2 v3 : Value} {l1 : Nat} {st : List Value} {im : IM} {rm : RM}  : evL X 19 [.ref l1, v1, v2, v3] st im rm = evL X 20 [.ref l1, v1, v2, v3] (.ref l1 :: st) (im) (rm) := evL_aload_n pm_m0 d0_19 rfl rfl
theorem d0_20 : decode code 20 = .ok (.arraylength, 1) := by decide +kernel
theorem s0_20 {X : Nat × (Nat → Int32)} {v0 v1 v2 v3 : Value}  {st : List Value} {im : IM} {rm : RM} (hk : kd 1000300 = 99) : evL X 20 [v0, v1, v2, v3] (.ref 1000300 :: st) im rm = evL X 21 [v0, v1, v2, v3] (.int (nI X.1) :: st) (im) (rm) := evL_slen pm_m0 rfl d0_20 hk rfl
theorem d0_21 : decode code 21 = .ok (.bipush 7, 2) := by decide +kernel
theorem s0_21 {X : Nat × (Nat → Int32)} {v0 v1 v2 v3 : Value}  {st : List Value} {im : IM} {rm : RM}  : evL X 21 [v0, v1, v2, v3] st im rm = evL X 23 [v0, v1, v2, v3] (.int (nI 7) :: st) (im) (rm) := evL_bipush pm_m0 d0_21 rfl rfl
theorem d0_23 : decode code 23 = .ok (.isub, 1) := by decide +kernel
theorem s0_23 {X : Nat × (Nat → Int32)} {v0 v1 v2 v3 : Value} {x : Int32} {y : Int32} {st : List Value} {im : IM} {rm : RM}  : evL X 23 [v0, v1, v2, v3] (.int y :: .int x :: st) im rm = evL X 24 [v0, v1, v2, v3] (.int (x - y) :: st) (im) (rm) := evL_isub pm_m0 d0_23 rfl
theorem d0_24 : decode code 24 = .ok (.if_icmp .gt 1331, 3) := by decide +kernel
theorem s0_24 {X : Nat × (Nat → Int32)} {v0 v1 v2 v3 : Value} {x : Int32} {y : Int32} {st : List Value} {im : IM} {rm : RM} : evL X 24 [v0, v1, v2, v3] (.int y :: .int x :: st) im rm = if y < x then evL X 1355 [pm_u, pm_u, pm_u, pm_u] st im rm else evL X 27 [v0, v1, v2, v3] st im rm := evL_icmp_gt pm_m0 d0_24 rfl rfl rfl
theorem d0_27 : decode code 27 = .ok (.aload_n 0, 1) := by decide +kernel
theorem s0_27 {X : Nat × (Nat → Int32)} {v1 v2 v3 : Value} {l1 : Nat} {st : List Value} {im : IM} {rm : RM}  : evL X 27 [.ref l1, v1, v2, v3] st im rm = evL X 28 [.ref l1, v1, v2, v3] (.ref l1 :: st) (im) (rm) := evL_aload_n pm_m0 d0_27 rfl rfl
theorem d0_28 : decode code 28 = .ok (.iload_n 3, 1) := by decide +kernel
theorem s0_28 {X : Nat × (Nat → Int32)} {v0 v1 v2 : Value} {l1 : Int32} {st : List Value} {im : IM} {rm : RM}  : evL X 28 [v0, v1, v2, .int l1] st im rm = evL X 29 [v0, v1, v2, .int l1] (.int l1 :: st) (im) (rm) := evL_iload_n pm_m0 d0_28 rfl rfl
theorem d0_29 : decode code 29 = .ok (.iaload, 1) := by decide +kernel
theorem s0_29 {X : Nat × (Nat → Int32)} {v0 v1 v2 v3 : Value} {i : Int32} {st : List Value} {im : IM} {rm : RM} (hk : kd 1000300 = 99) (hi : pm_in i X.1 = true) : evL X 29 [v0, v1, v2, v3] (.int i :: .ref 1000300 :: st) im rm = evL X 30 [v0, v1, v2, v3] (.int (X.2 i.toNatClampNeg) :: st) (im) (rm) := evL_sld pm_m0 rfl d0_29 hk hi rfl
theorem d0_30 : decode code 30 = .ok (.bipush 63, 2) := by decide +kernel
theorem s0_30 {X : Nat × (Nat → Int32)} {v0 v1 v2 v3 : Value}  {st : List Value} {im : IM} {rm : RM}  : evL X 30 [v0, v1, v2, v3] st im rm = evL X 32 [v0, v1, v2, v3] (.int (nI 63) :: st) (im) (rm) := evL_bipush pm_m0 d0_30 rfl rfl
theorem d0_32 : decode code 32 = .ok (.iand, 1) := by decide +kernel
theorem s0_32 {X : Nat × (Nat → Int32)} {v0 v1 v2 v3 : Value} {x : Int32} {y : Int32} {st : List Value} {im : IM} {rm : RM}  : evL X 32 [v0, v1, v2, v3] (.int y :: .int x :: st) im rm = evL X 33 [v0, v1, v2, v3] (.int (x &&& y) :: st) (im) (rm) := evL_iand pm_m0 d0_32 rfl
theorem d0_33 : decode code 33 = .ok (.tableswitch 1316 0 33 #[151, 194, 269, 312, 345, 388, 451, 464, 487, 510, 533, 586, 629, 652, 675, 688, 731, 774, 787, 810, 843, 896, 929, 962, 1005, 1048, 1071, 1104, 1137, 1160, 1203, 1226, 1269, 1293], 151) := by decide +kernel
theorem s0_33_0 {X : Nat × (Nat → Int32)} {v0 v1 v2 v3 : Value}  {st : List Value} {im : IM} {rm : RM}  : evL X 33 [v0, v1, v2, v3] (.int (nI 0) :: st) im rm = evL X 184 [v0, v1, v2, v3] st (im) (rm) := evL_swI pm_m0 d0_33 (by decide) rfl rfl rfl
theorem s0_33_1 {X : Nat × (Nat → Int32)} {v0 v1 v2 v3 : Value}  {st : List Value} {im : IM} {rm : RM}  : evL X 33 [v0, v1, v2, v3] (.int (nI 1) :: st) im rm = evL X 227 [v0, v1, v2, v3] st (im) (rm) := evL_swI pm_m0 d0_33 (by decide) rfl rfl rfl
theorem s0_33_2 {X : Nat × (Nat → Int32)} {v0 v1 v2 v3 : Value}  {st : List Value} {im : IM} {rm : RM}  : evL X 33 [v0, v1, v2, v3] (.int (nI 2) :: st) im rm = evL X 302 [v0, v1, v2, v3] st (im) (rm) := evL_swI pm_m0 d0_33 (by decide) rfl rfl rfl
theorem s0_33_3 {X : Nat × (Nat → Int32)} {v0 v1 v2 v3 : Value}  {st : List Value} {im : IM} {rm : RM}  : evL X 33 [v0, v1, v2, v3] (.int (nI 3) :: st) im rm = evL X 345 [v0, v1, v2, v3] st (im) (rm) := evL_swI pm_m0 d0_33 (by decide) rfl rfl rfl
theorem s0_33_4 {X : Nat × (Nat → Int32)} {v0 v1 v2 v3 : Value}  {st : List Value} {im : IM} {rm : RM}  : evL X 33 [v0, v1, v2, v3] (.int (nI 4) :: st) im rm = evL X 378 [v0, v1, v2, v3] st (im) (rm) := evL_swI pm_m0 d0_33 (by decide) rfl rfl rfl
theorem s0_33_5 {X : Nat × (Nat → Int32)} {v0 v1 v2 v3 : Value}  {st : List Value} {im : IM} {rm : RM}  : evL X 33 [v0, v1, v2, v3] (.int (nI 5) :: st) im rm = evL X 421 [v0, v1, v2, v3] st (im) (rm) := evL_swI pm_m0 d0_33 (by decide) rfl rfl rfl
theorem s0_33_6 {X : Nat × (Nat → Int32)} {v0 v1 v2 v3 : Value}  {st : List Value} {im : IM} {rm : RM}  : evL X 33 [v0, v1, v2, v3] (.int (nI 6) :: st) im rm = evL X 484 [v0, v1, v2, v3] st (im) (rm) := evL_swI pm_m0 d0_33 (by decide) rfl rfl rfl
theorem s0_33_7 {X : Nat × (Nat → Int32)} {v0 v1 v2 v3 : Value}  {st : List Value} {im : IM} {rm : RM}  : evL X 33 [v0, v1, v2, v3] (.int (nI 7) :: st) im rm = evL X 497 [v0, v1, v2, v3] st (im) (rm) := evL_swI pm_m0 d0_33 (by decide) rfl rfl rfl
theorem s0_33_8 {X : Nat × (Nat → Int32)} {v0 v1 v2 v3 : Value}  {st : List Value} {im : IM} {rm : RM}  : evL X 33 [v0, v1, v2, v3] (.int (nI 8) :: st) im rm = evL X 520 [v0, v1, v2, v3] st (im) (rm) := evL_swI pm_m0 d0_33 (by decide) rfl rfl rfl
theorem s0_33_9 {X : Nat × (Nat → Int32)} {v0 v1 v2 v3 : Value}  {st : List Value} {im : IM} {rm : RM}  : evL X 33 [v0, v1, v2, v3] (.int (nI 9) :: st) im rm = evL X 543 [v0, v1, v2, v3] st (im) (rm) := evL_swI pm_m0 d0_33 (by decide) rfl rfl rfl
theorem s0_33_10 {X : Nat × (Nat → Int32)} {v0 v1 v2 v3 : Value}  {st : List Value} {im : IM} {rm : RM}  : evL X 33 [v0, v1, v2, v3] (.int (nI 10) :: st) im rm = evL X 566 [v0, v1, v2, v3] st (im) (rm) := evL_swI pm_m0 d0_33 (by decide) rfl rfl rfl
theorem s0_33_11 {X : Nat × (Nat → Int32)} {v0 v1 v2 v3 : Value}  {st : List Value} {im : IM} {rm : RM}  : evL X 33 [v0, v1, v2, v3] (.int (nI 11) :: st) im rm = evL X 619 [v0, v1, v2, v3] st (im) (rm) := evL_swI pm_m0 d0_33 (by decide) rfl rfl rfl
theorem s0_33_12 {X : Nat × (Nat → Int32)} {v0 v1 v2 v3 : Value}  {st : List Value} {im : IM} {rm : RM}  : evL X 33 [v0, v1, v2, v3] (.int (nI 12) :: st) im rm = evL X 662 [v0, v1, v2, v3] st (im) (rm) := evL_swI pm_m0 d0_33 (by decide) rfl rfl rfl
theorem s0_33_13 {X : Nat × (Nat → Int32)} {v0 v1 v2 v3 : Value}  {st : List Value} {im : IM} {rm : RM}  : evL X 33 [v0, v1, v2, v3] (.int (nI 13) :: st) im rm = evL X 685 [v0, v1, v2, v3] st (im) (rm) := evL_swI pm_m0 d0_33 (by decide) rfl rfl rfl
theorem s0_33_14 {X : Nat × (Nat → Int32)} {v0 v1 v2 v3 : Value}  {st : List Value} {im : IM} {rm : RM}  : evL X 33 [v0, v1, v2, v3] (.int (nI 14) :: st) im rm = evL X 708 [v0, v1, v2, v3] st (im) (rm) := evL_swI pm_m0 d0_33 (by decide) rfl rfl rfl
theorem s0_33_15 {X : Nat × (Nat → Int32)} {v0 v1 v2 v3 : Value}  {st : List Value} {im : IM} {rm : RM}  : evL X 33 [v0, v1, v2, v3] (.int (nI 15) :: st) im rm = evL X 721 [v0, v1, v2, v3] st (im) (rm) := evL_swI pm_m0 d0_33 (by decide) rfl rfl rfl
theorem s0_33_16 {X : Nat × (Nat → Int32)} {v0 v1 v2 v3 : Value}  {st : List Value} {im : IM} {rm : RM}  : evL X 33 [v0, v1, v2, v3] (.int (nI 16) :: st) im rm = evL X 764 [v0, v1, v2, v3] st (im) (rm) := evL_swI pm_m0 d0_33 (by decide) rfl rfl rfl
theorem s0_33_17 {X : Nat × (Nat → Int32)} {v0 v1 v2 v3 : Value}  {st : List Value} {im : IM} {rm : RM}  : evL X 33 [v0, v1, v2, v3] (.int (nI 17) :: st) im rm = evL X 807 [v0, v1, v2, v3] st (im) (rm) := evL_swI pm_m0 d0_33 (by decide) rfl rfl rfl
theorem s0_33_18 {X : Nat × (Nat → Int32)} {v0 v1 v2 v3 : Value}  {st : List Value} {im : IM} {rm : RM}  : evL X 33 [v0, v1, v2, v3] (.int (nI 18) :: st) im rm = evL X 820 [v0, v1, v2, v3] st (im) (rm) := evL_swI pm_m0 d0_33 (by decide) rfl rfl rfl
theorem s0_33_19 {X : Nat × (Nat → Int32)} {v0 v1 v2 v3 : Value}  {st : List Value} {im : IM} {rm : RM}  : evL X 33 [v0, v1, v2, v3] (.int (nI 19) :: st) im rm = evL X 843 [v0, v1, v2, v3] st (im) (rm) := evL_swI pm_m0 d0_33 (by decide) rfl rfl rfl
theorem s0_33_20 {X : Nat × (Nat → Int32)} {v0 v1 v2 v3 : Value}  {st : List Value} {im : IM} {rm : RM}  : evL X 33 [v0, v1, v2, v3] (.int (nI 20) :: st) im rm = evL X 876 [v0, v1, v2, v3] st (im) (rm) := evL_swI pm_m0 d0_33 (by decide) rfl rfl rfl
theorem s0_33_21 {X : Nat × (Nat → Int32)} {v0 v1 v2 v3 : Value}  {st : List Value} {im : IM} {rm : RM}  : evL X 33 [v0, v1, v2, v3] (.int (nI 21) :: st) im rm = evL X 929 [v0, v1, v2, v3] st (im) (rm) := evL_swI pm_m0 d0_33 (by decide) rfl rfl rfl
theorem s0_33_22 {X : Nat × (Nat → Int32)} {v0 v1 v2 v3 : Value}  {st : List Value} {im : IM} {rm : RM}  : evL X 33 [v0, v1, v2, v3] (.int (nI 22) :: st) im rm = evL X 962 [v0, v1, v2, v3] st (im) (rm) := evL_swI pm_m0 d0_33 (by decide) rfl rfl rfl
theorem s0_33_23 {X : Nat × (Nat → Int32)} {v0 v1 v2 v3 : Value}  {st : List Value} {im : IM} {rm : RM}  : evL X 33 [v0, v1, v2, v3] (.int (nI 23) :: st) im rm = evL X 995 [v0, v1, v2, v3] st (im) (rm) := evL_swI pm_m0 d0_33 (by decide) rfl rfl rfl
theorem s0_33_24 {X : Nat × (Nat → Int32)} {v0 v1 v2 v3 : Value}  {st : List Value} {im : IM} {rm : RM}  : evL X 33 [v0, v1, v2, v3] (.int (nI 24) :: st) im rm = evL X 1038 [v0, v1, v2, v3] st (im) (rm) := evL_swI pm_m0 d0_33 (by decide) rfl rfl rfl
theorem s0_33_25 {X : Nat × (Nat → Int32)} {v0 v1 v2 v3 : Value}  {st : List Value} {im : IM} {rm : RM}  : evL X 33 [v0, v1, v2, v3] (.int (nI 25) :: st) im rm = evL X 1081 [v0, v1, v2, v3] st (im) (rm) := evL_swI pm_m0 d0_33 (by decide) rfl rfl rfl
theorem s0_33_26 {X : Nat × (Nat → Int32)} {v0 v1 v2 v3 : Value}  {st : List Value} {im : IM} {rm : RM}  : evL X 33 [v0, v1, v2, v3] (.int (nI 26) :: st) im rm = evL X 1104 [v0, v1, v2, v3] st (im) (rm) := evL_swI pm_m0 d0_33 (by decide) rfl rfl rfl
theorem s0_33_27 {X : Nat × (Nat → Int32)} {v0 v1 v2 v3 : Value}  {st : List Value} {im : IM} {rm : RM}  : evL X 33 [v0, v1, v2, v3] (.int (nI 27) :: st) im rm = evL X 1137 [v0, v1, v2, v3] st (im) (rm) := evL_swI pm_m0 d0_33 (by decide) rfl rfl rfl
theorem s0_33_28 {X : Nat × (Nat → Int32)} {v0 v1 v2 v3 : Value}  {st : List Value} {im : IM} {rm : RM}  : evL X 33 [v0, v1, v2, v3] (.int (nI 28) :: st) im rm = evL X 1170 [v0, v1, v2, v3] st (im) (rm) := evL_swI pm_m0 d0_33 (by decide) rfl rfl rfl
theorem s0_33_29 {X : Nat × (Nat → Int32)} {v0 v1 v2 v3 : Value}  {st : List Value} {im : IM} {rm : RM}  : evL X 33 [v0, v1, v2, v3] (.int (nI 29) :: st) im rm = evL X 1193 [v0, v1, v2, v3] st (im) (rm) := evL_swI pm_m0 d0_33 (by decide) rfl rfl rfl
theorem s0_33_30 {X : Nat × (Nat → Int32)} {v0 v1 v2 v3 : Value}  {st : List Value} {im : IM} {rm : RM}  : evL X 33 [v0, v1, v2, v3] (.int (nI 30) :: st) im rm = evL X 1236 [v0, v1, v2, v3] st (im) (rm) := evL_swI pm_m0 d0_33 (by decide) rfl rfl rfl
theorem s0_33_31 {X : Nat × (Nat → Int32)} {v0 v1 v2 v3 : Value}  {st : List Value} {im : IM} {rm : RM}  : evL X 33 [v0, v1, v2, v3] (.int (nI 31) :: st) im rm = evL X 1259 [v0, v1, v2, v3] st (im) (rm) := evL_swI pm_m0 d0_33 (by decide) rfl rfl rfl
theorem s0_33_32 {X : Nat × (Nat → Int32)} {v0 v1 v2 v3 : Value}  {st : List Value} {im : IM} {rm : RM}  : evL X 33 [v0, v1, v2, v3] (.int (nI 32) :: st) im rm = evL X 1302 [v0, v1, v2, v3] st (im) (rm) := evL_swI pm_m0 d0_33 (by decide) rfl rfl rfl
theorem s0_33_33 {X : Nat × (Nat → Int32)} {v0 v1 v2 v3 : Value}  {st : List Value} {im : IM} {rm : RM}  : evL X 33 [v0, v1, v2, v3] (.int (nI 33) :: st) im rm = evL X 1326 [v0, v1, v2, v3] st (im) (rm) := evL_swI pm_m0 d0_33 (by decide) rfl rfl rfl
theorem s0_33_34 {X : Nat × (Nat → Int32)} {v0 v1 v2 v3 : Value}  {st : List Value} {im : IM} {rm : RM}  : evL X 33 [v0, v1, v2, v3] (.int (nI 34) :: st) im rm = evL X 1349 [v0, v1, v2, v3] st (im) (rm) := evL_swO pm_m0 d0_33 (by decide) rfl rfl
theorem s0_33_35 {X : Nat × (Nat → Int32)} {v0 v1 v2 v3 : Value}  {st : List Value} {im : IM} {rm : RM}  : evL X 33 [v0, v1, v2, v3] (.int (nI 35) :: st) im rm = evL X 1349 [v0, v1, v2, v3] st (im) (rm) := evL_swO pm_m0 d0_33 (by decide) rfl rfl
theorem s0_33_36 {X : Nat × (Nat → Int32)} {v0 v1 v2 v3 : Value}  {st : List Value} {im : IM} {rm : RM}  : evL X 33 [v0, v1, v2, v3] (.int (nI 36) :: st) im rm = evL X 1349 [v0, v1, v2, v3] st (im) (rm) := evL_swO pm_m0 d0_33 (by decide) rfl rfl
theorem s0_33_37 {X : Nat × (Nat → Int32)} {v0 v1 v2 v3 : Value}  {st : List Value} {im : IM} {rm : RM}  : evL X 33 [v0, v1, v2, v3] (.int (nI 37) :: st) im rm = evL X 1349 [v0, v1, v2, v3] st (im) (rm) := evL_swO pm_m0 d0_33 (by decide) rfl rfl
theorem s0_33_38 {X : Nat × (Nat → Int32)} {v0 v1 v2 v3 : Value}  {st : List Value} {im : IM} {rm : RM}  : evL X 33 [v0, v1, v2, v3] (.int (nI 38) :: st) im rm = evL X 1349 [v0, v1, v2, v3] st (im) (rm) := evL_swO pm_m0 d0_33 (by decide) rfl rfl
theorem s0_33_39 {X : Nat × (Nat → Int32)} {v0 v1 v2 v3 : Value}  {st : List Value} {im : IM} {rm : RM}  : evL X 33 [v0, v1, v2, v3] (.int (nI 39) :: st) im rm = evL X 1349 [v0, v1, v2, v3] st (im) (rm) := evL_swO pm_m0 d0_33 (by decide) rfl rfl
theorem s0_33_40 {X : Nat × (Nat → Int32)} {v0 v1 v2 v3 : Value}  {st : List Value} {im : IM} {rm : RM}  : evL X 33 [v0, v1, v2, v3] (.int (nI 40) :: st) im rm = evL X 1349 [v0, v1, v2, v3] st (im) (rm) := evL_swO pm_m0 d0_33 (by decide) rfl rfl
theorem s0_33_41 {X : Nat × (Nat → Int32)} {v0 v1 v2 v3 : Value}  {st : List Value} {im : IM} {rm : RM}  : evL X 33 [v0, v1, v2, v3] (.int (nI 41) :: st) im rm = evL X 1349 [v0, v1, v2, v3] st (im) (rm) := evL_swO pm_m0 d0_33 (by decide) rfl rfl
theorem s0_33_42 {X : Nat × (Nat → Int32)} {v0 v1 v2 v3 : Value}  {st : List Value} {im : IM} {rm : RM}  : evL X 33 [v0, v1, v2, v3] (.int (nI 42) :: st) im rm = evL X 1349 [v0, v1, v2, v3] st (im) (rm) := evL_swO pm_m0 d0_33 (by decide) rfl rfl
theorem s0_33_43 {X : Nat × (Nat → Int32)} {v0 v1 v2 v3 : Value}  {st : List Value} {im : IM} {rm : RM}  : evL X 33 [v0, v1, v2, v3] (.int (nI 43) :: st) im rm = evL X 1349 [v0, v1, v2, v3] st (im) (rm) := evL_swO pm_m0 d0_33 (by decide) rfl rfl
theorem s0_33_44 {X : Nat × (Nat → Int32)} {v0 v1 v2 v3 : Value}  {st : List Value} {im : IM} {rm : RM}  : evL X 33 [v0, v1, v2, v3] (.int (nI 44) :: st) im rm = evL X 1349 [v0, v1, v2, v3] st (im) (rm) := evL_swO pm_m0 d0_33 (by decide) rfl rfl
theorem s0_33_45 {X : Nat × (Nat → Int32)} {v0 v1 v2 v3 : Value}  {st : List Value} {im : IM} {rm : RM}  : evL X 33 [v0, v1, v2, v3] (.int (nI 45) :: st) im rm = evL X 1349 [v0, v1, v2, v3] st (im) (rm) := evL_swO pm_m0 d0_33 (by decide) rfl rfl
theorem s0_33_46 {X : Nat × (Nat → Int32)} {v0 v1 v2 v3 : Value}  {st : List Value} {im : IM} {rm : RM}  : evL X 33 [v0, v1, v2, v3] (.int (nI 46) :: st) im rm = evL X 1349 [v0, v1, v2, v3] st (im) (rm) := evL_swO pm_m0 d0_33 (by decide) rfl rfl
theorem s0_33_47 {X : Nat × (Nat → Int32)} {v0 v1 v2 v3 : Value}  {st : List Value} {im : IM} {rm : RM}  : evL X 33 [v0, v1, v2, v3] (.int (nI 47) :: st) im rm = evL X 1349 [v0, v1, v2, v3] st (im) (rm) := evL_swO pm_m0 d0_33 (by decide) rfl rfl
theorem s0_33_48 {X : Nat × (Nat → Int32)} {v0 v1 v2 v3 : Value}  {st : List Value} {im : IM} {rm : RM}  : evL X 33 [v0, v1, v2, v3] (.int (nI 48) :: st) im rm = evL X 1349 [v0, v1, v2, v3] st (im) (rm) := evL_swO pm_m0 d0_33 (by decide) rfl rfl
theorem s0_33_49 {X : Nat × (Nat → Int32)} {v0 v1 v2 v3 : Value}  {st : List Value} {im : IM} {rm : RM}  : evL X 33 [v0, v1, v2, v3] (.int (nI 49) :: st) im rm = evL X 1349 [v0, v1, v2, v3] st (im) (rm) := evL_swO pm_m0 d0_33 (by decide) rfl rfl
theorem s0_33_50 {X : Nat × (Nat → Int32)} {v0 v1 v2 v3 : Value}  {st : List Value} {im : IM} {rm : RM}  : evL X 33 [v0, v1, v2, v3] (.int (nI 50) :: st) im rm = evL X 1349 [v0, v1, v2, v3] st (im) (rm) := evL_swO pm_m0 d0_33 (by decide) rfl rfl
theorem s0_33_51 {X : Nat × (Nat → Int32)} {v0 v1 v2 v3 : Value}  {st : List Value} {im : IM} {rm : RM}  : evL X 33 [v0, v1, v2, v3] (.int (nI 51) :: st) im rm = evL X 1349 [v0, v1, v2, v3] st (im) (rm) := evL_swO pm_m0 d0_33 (by decide) rfl rfl
theorem s0_33_52 {X : Nat × (Nat → Int32)} {v0 v1 v2 v3 : Value}  {st : List Value} {im : IM} {rm : RM}  : evL X 33 [v0, v1, v2, v3] (.int (nI 52) :: st) im rm = evL X 1349 [v0, v1, v2, v3] st (im) (rm) := evL_swO pm_m0 d0_33 (by decide) rfl rfl
theorem s0_33_53 {X : Nat × (Nat → Int32)} {v0 v1 v2 v3 : Value}  {st : List Value} {im : IM} {rm : RM}  : evL X 33 [v0, v1, v2, v3] (.int (nI 53) :: st) im rm = evL X 1349 [v0, v1, v2, v3] st (im) (rm) := evL_swO pm_m0 d0_33 (by decide) rfl rfl
theorem s0_33_54 {X : Nat × (Nat → Int32)} {v0 v1 v2 v3 : Value}  {st : List Value} {im : IM} {rm : RM}  : evL X 33 [v0, v1, v2, v3] (.int (nI 54) :: st) im rm = evL X 1349 [v0, v1, v2, v3] st (im) (rm) := evL_swO pm_m0 d0_33 (by decide) rfl rfl
theorem s0_33_55 {X : Nat × (Nat → Int32)} {v0 v1 v2 v3 : Value}  {st : List Value} {im : IM} {rm : RM}  : evL X 33 [v0, v1, v2, v3] (.int (nI 55) :: st) im rm = evL X 1349 [v0, v1, v2, v3] st (im) (rm) := evL_swO pm_m0 d0_33 (by decide) rfl rfl
theorem s0_33_56 {X : Nat × (Nat → Int32)} {v0 v1 v2 v3 : Value}  {st : List Value} {im : IM} {rm : RM}  : evL X 33 [v0, v1, v2, v3] (.int (nI 56) :: st) im rm = evL X 1349 [v0, v1, v2, v3] st (im) (rm) := evL_swO pm_m0 d0_33 (by decide) rfl rfl
theorem s0_33_57 {X : Nat × (Nat → Int32)} {v0 v1 v2 v3 : Value}  {st : List Value} {im : IM} {rm : RM}  : evL X 33 [v0, v1, v2, v3] (.int (nI 57) :: st) im rm = evL X 1349 [v0, v1, v2, v3] st (im) (rm) := evL_swO pm_m0 d0_33 (by decide) rfl rfl
theorem s0_33_58 {X : Nat × (Nat → Int32)} {v0 v1 v2 v3 : Value}  {st : List Value} {im : IM} {rm : RM}  : evL X 33 [v0, v1, v2, v3] (.int (nI 58) :: st) im rm = evL X 1349 [v0, v1, v2, v3] st (im) (rm) := evL_swO pm_m0 d0_33 (by decide) rfl rfl
theorem s0_33_59 {X : Nat × (Nat → Int32)} {v0 v1 v2 v3 : Value}  {st : List Value} {im : IM} {rm : RM}  : evL X 33 [v0, v1, v2, v3] (.int (nI 59) :: st) im rm = evL X 1349 [v0, v1, v2, v3] st (im) (rm) := evL_swO pm_m0 d0_33 (by decide) rfl rfl
theorem s0_33_60 {X : Nat × (Nat → Int32)} {v0 v1 v2 v3 : Value}  {st : List Value} {im : IM} {rm : RM}  : evL X 33 [v0, v1, v2, v3] (.int (nI 60) :: st) im rm = evL X 1349 [v0, v1, v2, v3] st (im) (rm) := evL_swO pm_m0 d0_33 (by decide) rfl rfl
theorem s0_33_61 {X : Nat × (Nat → Int32)} {v0 v1 v2 v3 : Value}  {st : List Value} {im : IM} {rm : RM}  : evL X 33 [v0, v1, v2, v3] (.int (nI 61) :: st) im rm = evL X 1349 [v0, v1, v2, v3] st (im) (rm) := evL_swO pm_m0 d0_33 (by decide) rfl rfl
theorem s0_33_62 {X : Nat × (Nat → Int32)} {v0 v1 v2 v3 : Value}  {st : List Value} {im : IM} {rm : RM}  : evL X 33 [v0, v1, v2, v3] (.int (nI 62) :: st) im rm = evL X 1349 [v0, v1, v2, v3] st (im) (rm) := evL_swO pm_m0 d0_33 (by decide) rfl rfl
theorem s0_33_63 {X : Nat × (Nat → Int32)} {v0 v1 v2 v3 : Value}  {st : List Value} {im : IM} {rm : RM}  : evL X 33 [v0, v1, v2, v3] (.int (nI 63) :: st) im rm = evL X 1349 [v0, v1, v2, v3] st (im) (rm) := evL_swO pm_m0 d0_33 (by decide) rfl rfl
theorem s0_33_o {X : Nat × (Nat → Int32)} {v0 v1 v2 v3 : Value} {x : Int32} {st : List Value} {im : IM} {rm : RM} (h1 : x.toInt < 0 ∨ 33 < x.toInt) : evL X 33 [v0, v1, v2, v3] (.int x :: st) im rm = evL X 1349 [v0, v1, v2, v3] st (im) (rm) := evL_swO pm_m0 d0_33 h1 rfl rfl
theorem d0_184 : decode code 184 = .ok (.aload_n 1, 1) := by decide +kernel
theorem s0_184 {X : Nat × (Nat → Int32)} {v0 v2 v3 : Value} {l1 : Nat} {st : List Value} {im : IM} {rm : RM}  : evL X 184 [v0, .ref l1, v2, v3] st im rm = evL X 185 [v0, .ref l1, v2, v3] (.ref l1 :: st) (im) (rm) := evL_aload_n pm_m0 d0_184 rfl rfl
theorem d0_185 : decode code 185 = .ok (.aload_n 0, 1) := by decide +kernel
theorem s0_185 {X : Nat × (Nat → Int32)} {v1 v2 v3 : Value} {l1 : Nat} {st : List Value} {im : IM} {rm : RM}  : evL X 185 [.ref l1, v1, v2, v3] st im rm = evL X 186 [.ref l1, v1, v2, v3] (.ref l1 :: st) (im) (rm) := evL_aload_n pm_m0 d0_185 rfl rfl
theorem d0_186 : decode code 186 = .ok (.iload_n 3, 1) := by decide +kernel
theorem s0_186 {X : Nat × (Nat → Int32)} {v0 v1 v2 : Value} {l1 : Int32} {st : List Value} {im : IM} {rm : RM}  : evL X 186 [v0, v1, v2, .int l1] st im rm = evL X 187 [v0, v1, v2, .int l1] (.int l1 :: st) (im) (rm) := evL_iload_n pm_m0 d0_186 rfl rfl
theorem d0_187 : decode code 187 = .ok (.iconst 1, 1) := by decide +kernel
theorem s0_187 {X : Nat × (Nat → Int32)} {v0 v1 v2 v3 : Value}  {st : List Value} {im : IM} {rm : RM}  : evL X 187 [v0, v1, v2, v3] st im rm = evL X 188 [v0, v1, v2, v3] (.int (nI 1) :: st) (im) (rm) := evL_iconst pm_m0 d0_187 rfl rfl
theorem d0_188 : decode code 188 = .ok (.iadd, 1) := by decide +kernel
theorem s0_188 {X : Nat × (Nat → Int32)} {v0 v1 v2 v3 : Value} {x : Int32} {y : Int32} {st : List Value} {im : IM} {rm : RM}  : evL X 188 [v0, v1, v2, v3] (.int y :: .int x :: st) im rm = evL X 189 [v0, v1, v2, v3] (.int (x + y) :: st) (im) (rm) := evL_iadd pm_m0 d0_188 rfl
theorem d0_189 : decode code 189 = .ok (.iaload, 1) := by decide +kernel
theorem s0_189 {X : Nat × (Nat → Int32)} {v0 v1 v2 v3 : Value} {i : Int32} {st : List Value} {im : IM} {rm : RM} (hk : kd 1000300 = 99) (hi : pm_in i X.1 = true) : evL X 189 [v0, v1, v2, v3] (.int i :: .ref 1000300 :: st) im rm = evL X 190 [v0, v1, v2, v3] (.int (X.2 i.toNatClampNeg) :: st) (im) (rm) := evL_sld pm_m0 rfl d0_189 hk hi rfl
theorem d0_190 : decode code 190 = .ok (.aload_n 0, 1) := by decide +kernel
theorem s0_190 {X : Nat × (Nat → Int32)} {v1 v2 v3 : Value} {l1 : Nat} {st : List Value} {im : IM} {rm : RM}  : evL X 190 [.ref l1, v1, v2, v3] st im rm = evL X 191 [.ref l1, v1, v2, v3] (.ref l1 :: st) (im) (rm) := evL_aload_n pm_m0 d0_190 rfl rfl
theorem d0_191 : decode code 191 = .ok (.iload_n 3, 1) := by decide +kernel
theorem s0_191 {X : Nat × (Nat → Int32)} {v0 v1 v2 : Value} {l1 : Int32} {st : List Value} {im : IM} {rm : RM}  : evL X 191 [v0, v1, v2, .int l1] st im rm = evL X 192 [v0, v1, v2, .int l1] (.int l1 :: st) (im) (rm) := evL_iload_n pm_m0 d0_191 rfl rfl
theorem d0_192 : decode code 192 = .ok (.iconst 2, 1) := by decide +kernel
theorem s0_192 {X : Nat × (Nat → Int32)} {v0 v1 v2 v3 : Value}  {st : List Value} {im : IM} {rm : RM}  : evL X 192 [v0, v1, v2, v3] st im rm = evL X 193 [v0, v1, v2, v3] (.int (nI 2) :: st) (im) (rm) := evL_iconst pm_m0 d0_192 rfl rfl
theorem d0_193 : decode code 193 = .ok (.iadd, 1) := by decide +kernel
theorem s0_193 {X : Nat × (Nat → Int32)} {v0 v1 v2 v3 : Value} {x : Int32} {y : Int32} {st : List Value} {im : IM} {rm : RM}  : evL X 193 [v0, v1, v2, v3] (.int y :: .int x :: st) im rm = evL X 194 [v0, v1, v2, v3] (.int (x + y) :: st) (im) (rm) := evL_iadd pm_m0 d0_193 rfl
theorem d0_194 : decode code 194 = .ok (.iaload, 1) := by decide +kernel
theorem s0_194 {X : Nat × (Nat → Int32)} {v0 v1 v2 v3 : Value} {i : Int32} {st : List Value} {im : IM} {rm : RM} (hk : kd 1000300 = 99) (hi : pm_in i X.1 = true) : evL X 194 [v0, v1, v2, v3] (.int i :: .ref 1000300 :: st) im rm = evL X 195 [v0, v1, v2, v3] (.int (X.2 i.toNatClampNeg) :: st) (im) (rm) := evL_sld pm_m0 rfl d0_194 hk hi rfl
theorem d0_195 : decode code 195 = .ok (.aload_n 0, 1) := by decide +kernel
theorem s0_195 {X : Nat × (Nat → Int32)} {v1 v2 v3 : Value} {l1 : Nat} {st : List Value} {im : IM} {rm : RM}  : evL X 195 [.ref l1, v1, v2, v3] st im rm = evL X 196 [.ref l1, v1, v2, v3] (.ref l1 :: st) (im) (rm) := evL_aload_n pm_m0 d0_195 rfl rfl
theorem d0_196 : decode code 196 = .ok (.iload_n 3, 1) := by decide +kernel
theorem s0_196 {X : Nat × (Nat → Int32)} {v0 v1 v2 : Value} {l1 : Int32} {st : List Value} {im : IM} {rm : RM}  : evL X 196 [v0, v1, v2, .int l1] st im rm = evL X 197 [v0, v1, v2, .int l1] (.int l1 :: st) (im) (rm) := evL_iload_n pm_m0 d0_196 rfl rfl
theorem d0_197 : decode code 197 = .ok (.iconst 3, 1) := by decide +kernel
theorem s0_197 {X : Nat × (Nat → Int32)} {v0 v1 v2 v3 : Value}  {st : List Value} {im : IM} {rm : RM}  : evL X 197 [v0, v1, v2, v3] st im rm = evL X 198 [v0, v1, v2, v3] (.int (nI 3) :: st) (im) (rm) := evL_iconst pm_m0 d0_197 rfl rfl
theorem d0_198 : decode code 198 = .ok (.iadd, 1) := by decide +kernel
theorem s0_198 {X : Nat × (Nat → Int32)} {v0 v1 v2 v3 : Value} {x : Int32} {y : Int32} {st : List Value} {im : IM} {rm : RM}  : evL X 198 [v0, v1, v2, v3] (.int y :: .int x :: st) im rm = evL X 199 [v0, v1, v2, v3] (.int (x + y) :: st) (im) (rm) := evL_iadd pm_m0 d0_198 rfl
theorem d0_199 : decode code 199 = .ok (.iaload, 1) := by decide +kernel
theorem s0_199 {X : Nat × (Nat → Int32)} {v0 v1 v2 v3 : Value} {i : Int32} {st : List Value} {im : IM} {rm : RM} (hk : kd 1000300 = 99) (hi : pm_in i X.1 = true) : evL X 199 [v0, v1, v2, v3] (.int i :: .ref 1000300 :: st) im rm = evL X 200 [v0, v1, v2, v3] (.int (X.2 i.toNatClampNeg) :: st) (im) (rm) := evL_sld pm_m0 rfl d0_199 hk hi rfl
theorem d0_200 : decode code 200 = .ok (.invokevirtual 13, 3) := by decide +kernel
theorem s0_200 {X : Nat × (Nat → Int32)} {v0 v1 v2 v3 : Value} {a : Nat} {p1 : Int32} {p2 : Int32} {p3 : Int32} {im : IM} {rm : RM} (hk : kd a = 17) : evL X 200 [v0, v1, v2, v3] [.int p3, .int p2, .int p1, .ref a] im rm = (ev 41 0 [.ref a, .int p1, .int p2, .int p3] [] im rm).bind (fun r => evL X 203 [v0, v1, v2, v3] (r.1.toList ++ []) r.2.1 r.2.2) := evL_callV pm_m0 d0_200 l9_13 rfl pm_m41 (by decide) hk rfl ⟨rfl, rfl⟩ rfl rfl
theorem d0_203 : decode code 203 = .ok (.aload_n 2, 1) := by decide +kernel
theorem s0_203 {X : Nat × (Nat → Int32)} {v0 v1 v3 : Value} {l1 : Nat} {st : List Value} {im : IM} {rm : RM}  : evL X 203 [v0, v1, .ref l1, v3] st im rm = evL X 204 [v0, v1, .ref l1, v3] (.ref l1 :: st) (im) (rm) := evL_aload_n pm_m0 d0_203 rfl rfl
theorem d0_204 : decode code 204 = .ok (.aload_n 0, 1) := by decide +kernel
theorem s0_204 {X : Nat × (Nat → Int32)} {v1 v2 v3 : Value} {l1 : Nat} {st : List Value} {im : IM} {rm : RM}  : evL X 204 [.ref l1, v1, v2, v3] st im rm = evL X 205 [.ref l1, v1, v2, v3] (.ref l1 :: st) (im) (rm) := evL_aload_n pm_m0 d0_204 rfl rfl
theorem d0_205 : decode code 205 = .ok (.iload_n 3, 1) := by decide +kernel
theorem s0_205 {X : Nat × (Nat → Int32)} {v0 v1 v2 : Value} {l1 : Int32} {st : List Value} {im : IM} {rm : RM}  : evL X 205 [v0, v1, v2, .int l1] st im rm = evL X 206 [v0, v1, v2, .int l1] (.int l1 :: st) (im) (rm) := evL_iload_n pm_m0 d0_205 rfl rfl
theorem d0_206 : decode code 206 = .ok (.iconst 1, 1) := by decide +kernel
theorem s0_206 {X : Nat × (Nat → Int32)} {v0 v1 v2 v3 : Value}  {st : List Value} {im : IM} {rm : RM}  : evL X 206 [v0, v1, v2, v3] st im rm = evL X 207 [v0, v1, v2, v3] (.int (nI 1) :: st) (im) (rm) := evL_iconst pm_m0 d0_206 rfl rfl
theorem d0_207 : decode code 207 = .ok (.iadd, 1) := by decide +kernel
theorem s0_207 {X : Nat × (Nat → Int32)} {v0 v1 v2 v3 : Value} {x : Int32} {y : Int32} {st : List Value} {im : IM} {rm : RM}  : evL X 207 [v0, v1, v2, v3] (.int y :: .int x :: st) im rm = evL X 208 [v0, v1, v2, v3] (.int (x + y) :: st) (im) (rm) := evL_iadd pm_m0 d0_207 rfl
theorem d0_208 : decode code 208 = .ok (.iaload, 1) := by decide +kernel
theorem s0_208 {X : Nat × (Nat → Int32)} {v0 v1 v2 v3 : Value} {i : Int32} {st : List Value} {im : IM} {rm : RM} (hk : kd 1000300 = 99) (hi : pm_in i X.1 = true) : evL X 208 [v0, v1, v2, v3] (.int i :: .ref 1000300 :: st) im rm = evL X 209 [v0, v1, v2, v3] (.int (X.2 i.toNatClampNeg) :: st) (im) (rm) := evL_sld pm_m0 rfl d0_208 hk hi rfl
theorem d0_209 : decode code 209 = .ok (.aload_n 0, 1) := by decide +kernel
theorem s0_209 {X : Nat × (Nat → Int32)} {v1 v2 v3 : Value} {l1 : Nat} {st : List Value} {im : IM} {rm : RM}  : evL X 209 [.ref l1, v1, v2, v3] st im rm = evL X 210 [.ref l1, v1, v2, v3] (.ref l1 :: st) (im) (rm) := evL_aload_n pm_m0 d0_209 rfl rfl
theorem d0_210 : decode code 210 = .ok (.iload_n 3, 1) := by decide +kernel
theorem s0_210 {X : Nat × (Nat → Int32)} {v0 v1 v2 : Value} {l1 : Int32} {st : List Value} {im : IM} {rm : RM}  : evL X 210 [v0, v1, v2, .int l1] st im rm = evL X 211 [v0, v1, v2, .int l1] (.int l1 :: st) (im) (rm) := evL_iload_n pm_m0 d0_210 rfl rfl
theorem d0_211 : decode code 211 = .ok (.iconst 2, 1) := by decide +kernel
theorem s0_211 {X : Nat × (Nat → Int32)} {v0 v1 v2 v3 : Value}  {st : List Value} {im : IM} {rm : RM}  : evL X 211 [v0, v1, v2, v3] st im rm = evL X 212 [v0, v1, v2, v3] (.int (nI 2) :: st) (im) (rm) := evL_iconst pm_m0 d0_211 rfl rfl
theorem d0_212 : decode code 212 = .ok (.iadd, 1) := by decide +kernel
theorem s0_212 {X : Nat × (Nat → Int32)} {v0 v1 v2 v3 : Value} {x : Int32} {y : Int32} {st : List Value} {im : IM} {rm : RM}  : evL X 212 [v0, v1, v2, v3] (.int y :: .int x :: st) im rm = evL X 213 [v0, v1, v2, v3] (.int (x + y) :: st) (im) (rm) := evL_iadd pm_m0 d0_212 rfl
theorem d0_213 : decode code 213 = .ok (.iaload, 1) := by decide +kernel
theorem s0_213 {X : Nat × (Nat → Int32)} {v0 v1 v2 v3 : Value} {i : Int32} {st : List Value} {im : IM} {rm : RM} (hk : kd 1000300 = 99) (hi : pm_in i X.1 = true) : evL X 213 [v0, v1, v2, v3] (.int i :: .ref 1000300 :: st) im rm = evL X 214 [v0, v1, v2, v3] (.int (X.2 i.toNatClampNeg) :: st) (im) (rm) := evL_sld pm_m0 rfl d0_213 hk hi rfl
theorem d0_214 : decode code 214 = .ok (.aload_n 0, 1) := by decide +kernel
theorem s0_214 {X : Nat × (Nat → Int32)} {v1 v2 v3 : Value} {l1 : Nat} {st : List Value} {im : IM} {rm : RM}  : evL X 214 [.ref l1, v1, v2, v3] st im rm = evL X 215 [.ref l1, v1, v2, v3] (.ref l1 :: st) (im) (rm) := evL_aload_n pm_m0 d0_214 rfl rfl
theorem d0_215 : decode code 215 = .ok (.iload_n 3, 1) := by decide +kernel
theorem s0_215 {X : Nat × (Nat → Int32)} {v0 v1 v2 : Value} {l1 : Int32} {st : List Value} {im : IM} {rm : RM}  : evL X 215 [v0, v1, v2, .int l1] st im rm = evL X 216 [v0, v1, v2, .int l1] (.int l1 :: st) (im) (rm) := evL_iload_n pm_m0 d0_215 rfl rfl
theorem d0_216 : decode code 216 = .ok (.iconst 3, 1) := by decide +kernel
theorem s0_216 {X : Nat × (Nat → Int32)} {v0 v1 v2 v3 : Value}  {st : List Value} {im : IM} {rm : RM}  : evL X 216 [v0, v1, v2, v3] st im rm = evL X 217 [v0, v1, v2, v3] (.int (nI 3) :: st) (im) (rm) := evL_iconst pm_m0 d0_216 rfl rfl
theorem d0_217 : decode code 217 = .ok (.iadd, 1) := by decide +kernel
theorem s0_217 {X : Nat × (Nat → Int32)} {v0 v1 v2 v3 : Value} {x : Int32} {y : Int32} {st : List Value} {im : IM} {rm : RM}  : evL X 217 [v0, v1, v2, v3] (.int y :: .int x :: st) im rm = evL X 218 [v0, v1, v2, v3] (.int (x + y) :: st) (im) (rm) := evL_iadd pm_m0 d0_217 rfl
theorem d0_218 : decode code 218 = .ok (.iaload, 1) := by decide +kernel
theorem s0_218 {X : Nat × (Nat → Int32)} {v0 v1 v2 v3 : Value} {i : Int32} {st : List Value} {im : IM} {rm : RM} (hk : kd 1000300 = 99) (hi : pm_in i X.1 = true) : evL X 218 [v0, v1, v2, v3] (.int i :: .ref 1000300 :: st) im rm = evL X 219 [v0, v1, v2, v3] (.int (X.2 i.toNatClampNeg) :: st) (im) (rm) := evL_sld pm_m0 rfl d0_218 hk hi rfl
theorem d0_219 : decode code 219 = .ok (.invokevirtual 17, 3) := by decide +kernel
theorem s0_219 {X : Nat × (Nat → Int32)} {v0 v1 v2 v3 : Value} {a : Nat} {p1 : Int32} {p2 : Int32} {p3 : Int32} {r4 : Int32} {im : IM} {rm : RM} (hk : kd a = 18) : evL X 219 [v0, v1, v2, v3] [.int p3, .int p2, .int p1, .ref a, .int r4] im rm = (ev 109 0 [.ref a, .int p1, .int p2, .int p3] [] im rm).bind (fun r => evL X 222 [v0, v1, v2, v3] (r.1.toList ++ [.int r4]) r.2.1 r.2.2) := evL_callV pm_m0 d0_219 l9_17 rfl pm_m109 (by decide) hk rfl ⟨rfl, rfl⟩ rfl rfl
theorem d0_222 : decode code 222 = .ok (.if_icmp .eq 1127, 3) := by decide +kernel
theorem s0_222 {X : Nat × (Nat → Int32)} {v0 v1 v2 v3 : Value} {x : Int32} {y : Int32} {st : List Value} {im : IM} {rm : RM} : evL X 222 [v0, v1, v2, v3] (.int y :: .int x :: st) im rm = if x = y then evL X 1349 [v0, v1, v2, v3] st im rm else evL X 225 [v0, v1, v2, v3] st im rm := evL_icmp_eq pm_m0 d0_222 rfl rfl rfl
theorem d0_225 : decode code 225 = .ok (.iconst 0, 1) := by decide +kernel
theorem s0_225 {X : Nat × (Nat → Int32)} {v0 v1 v2 v3 : Value}  {st : List Value} {im : IM} {rm : RM}  : evL X 225 [v0, v1, v2, v3] st im rm = evL X 226 [v0, v1, v2, v3] (.int (nI 0) :: st) (im) (rm) := evL_iconst pm_m0 d0_225 rfl rfl
theorem d0_226 : decode code 226 = .ok (.ireturn, 1) := by decide +kernel
theorem s0_226 {X : Nat × (Nat → Int32)} {v0 v1 v2 v3 : Value} {x : Int32} {im : IM} {rm : RM} (hx : x = 0 ∨ x = 1) : evL X 226 [v0, v1, v2, v3] [.int x] im rm = some (some (.int x), im, rm) := evL_zreturn pm_m0 d0_226 rfl hx (by decide)
theorem d0_227 : decode code 227 = .ok (.aload_n 1, 1) := by decide +kernel
theorem s0_227 {X : Nat × (Nat → Int32)} {v0 v2 v3 : Value} {l1 : Nat} {st : List Value} {im : IM} {rm : RM}  : evL X 227 [v0, .ref l1, v2, v3] st im rm = evL X 228 [v0, .ref l1, v2, v3] (.ref l1 :: st) (im) (rm) := evL_aload_n pm_m0 d0_227 rfl rfl
theorem d0_228 : decode code 228 = .ok (.aload_n 0, 1) := by decide +kernel
theorem s0_228 {X : Nat × (Nat → Int32)} {v1 v2 v3 : Value} {l1 : Nat} {st : List Value} {im : IM} {rm : RM}  : evL X 228 [.ref l1, v1, v2, v3] st im rm = evL X 229 [.ref l1, v1, v2, v3] (.ref l1 :: st) (im) (rm) := evL_aload_n pm_m0 d0_228 rfl rfl
theorem d0_229 : decode code 229 = .ok (.iload_n 3, 1) := by decide +kernel
theorem s0_229 {X : Nat × (Nat → Int32)} {v0 v1 v2 : Value} {l1 : Int32} {st : List Value} {im : IM} {rm : RM}  : evL X 229 [v0, v1, v2, .int l1] st im rm = evL X 230 [v0, v1, v2, .int l1] (.int l1 :: st) (im) (rm) := evL_iload_n pm_m0 d0_229 rfl rfl
theorem d0_230 : decode code 230 = .ok (.iconst 1, 1) := by decide +kernel
theorem s0_230 {X : Nat × (Nat → Int32)} {v0 v1 v2 v3 : Value}  {st : List Value} {im : IM} {rm : RM}  : evL X 230 [v0, v1, v2, v3] st im rm = evL X 231 [v0, v1, v2, v3] (.int (nI 1) :: st) (im) (rm) := evL_iconst pm_m0 d0_230 rfl rfl
theorem d0_231 : decode code 231 = .ok (.iadd, 1) := by decide +kernel
theorem s0_231 {X : Nat × (Nat → Int32)} {v0 v1 v2 v3 : Value} {x : Int32} {y : Int32} {st : List Value} {im : IM} {rm : RM}  : evL X 231 [v0, v1, v2, v3] (.int y :: .int x :: st) im rm = evL X 232 [v0, v1, v2, v3] (.int (x + y) :: st) (im) (rm) := evL_iadd pm_m0 d0_231 rfl
theorem d0_232 : decode code 232 = .ok (.iaload, 1) := by decide +kernel
theorem s0_232 {X : Nat × (Nat → Int32)} {v0 v1 v2 v3 : Value} {i : Int32} {st : List Value} {im : IM} {rm : RM} (hk : kd 1000300 = 99) (hi : pm_in i X.1 = true) : evL X 232 [v0, v1, v2, v3] (.int i :: .ref 1000300 :: st) im rm = evL X 233 [v0, v1, v2, v3] (.int (X.2 i.toNatClampNeg) :: st) (im) (rm) := evL_sld pm_m0 rfl d0_232 hk hi rfl
theorem d0_233 : decode code 233 = .ok (.aload_n 0, 1) := by decide +kernel
theorem s0_233 {X : Nat × (Nat → Int32)} {v1 v2 v3 : Value} {l1 : Nat} {st : List Value} {im : IM} {rm : RM}  : evL X 233 [.ref l1, v1, v2, v3] st im rm = evL X 234 [.ref l1, v1, v2, v3] (.ref l1 :: st) (im) (rm) := evL_aload_n pm_m0 d0_233 rfl rfl
theorem d0_234 : decode code 234 = .ok (.iload_n 3, 1) := by decide +kernel
theorem s0_234 {X : Nat × (Nat → Int32)} {v0 v1 v2 : Value} {l1 : Int32} {st : List Value} {im : IM} {rm : RM}  : evL X 234 [v0, v1, v2, .int l1] st im rm = evL X 235 [v0, v1, v2, .int l1] (.int l1 :: st) (im) (rm) := evL_iload_n pm_m0 d0_234 rfl rfl
theorem d0_235 : decode code 235 = .ok (.iconst 2, 1) := by decide +kernel
theorem s0_235 {X : Nat × (Nat → Int32)} {v0 v1 v2 v3 : Value}  {st : List Value} {im : IM} {rm : RM}  : evL X 235 [v0, v1, v2, v3] st im rm = evL X 236 [v0, v1, v2, v3] (.int (nI 2) :: st) (im) (rm) := evL_iconst pm_m0 d0_235 rfl rfl
theorem d0_236 : decode code 236 = .ok (.iadd, 1) := by decide +kernel
theorem s0_236 {X : Nat × (Nat → Int32)} {v0 v1 v2 v3 : Value} {x : Int32} {y : Int32} {st : List Value} {im : IM} {rm : RM}  : evL X 236 [v0, v1, v2, v3] (.int y :: .int x :: st) im rm = evL X 237 [v0, v1, v2, v3] (.int (x + y) :: st) (im) (rm) := evL_iadd pm_m0 d0_236 rfl
theorem d0_237 : decode code 237 = .ok (.iaload, 1) := by decide +kernel
theorem s0_237 {X : Nat × (Nat → Int32)} {v0 v1 v2 v3 : Value} {i : Int32} {st : List Value} {im : IM} {rm : RM} (hk : kd 1000300 = 99) (hi : pm_in i X.1 = true) : evL X 237 [v0, v1, v2, v3] (.int i :: .ref 1000300 :: st) im rm = evL X 238 [v0, v1, v2, v3] (.int (X.2 i.toNatClampNeg) :: st) (im) (rm) := evL_sld pm_m0 rfl d0_237 hk hi rfl
theorem d0_238 : decode code 238 = .ok (.aload_n 0, 1) := by decide +kernel
theorem s0_238 {X : Nat × (Nat → Int32)} {v1 v2 v3 : Value} {l1 : Nat} {st : List Value} {im : IM} {rm : RM}  : evL X 238 [.ref l1, v1, v2, v3] st im rm = evL X 239 [.ref l1, v1, v2, v3] (.ref l1 :: st) (im) (rm) := evL_aload_n pm_m0 d0_238 rfl rfl
theorem d0_239 : decode code 239 = .ok (.iload_n 3, 1) := by decide +kernel
theorem s0_239 {X : Nat × (Nat → Int32)} {v0 v1 v2 : Value} {l1 : Int32} {st : List Value} {im : IM} {rm : RM}  : evL X 239 [v0, v1, v2, .int l1] st im rm = evL X 240 [v0, v1, v2, .int l1] (.int l1 :: st) (im) (rm) := evL_iload_n pm_m0 d0_239 rfl rfl
theorem d0_240 : decode code 240 = .ok (.iconst 3, 1) := by decide +kernel
theorem s0_240 {X : Nat × (Nat → Int32)} {v0 v1 v2 v3 : Value}  {st : List Value} {im : IM} {rm : RM}  : evL X 240 [v0, v1, v2, v3] st im rm = evL X 241 [v0, v1, v2, v3] (.int (nI 3) :: st) (im) (rm) := evL_iconst pm_m0 d0_240 rfl rfl
theorem d0_241 : decode code 241 = .ok (.iadd, 1) := by decide +kernel
theorem s0_241 {X : Nat × (Nat → Int32)} {v0 v1 v2 v3 : Value} {x : Int32} {y : Int32} {st : List Value} {im : IM} {rm : RM}  : evL X 241 [v0, v1, v2, v3] (.int y :: .int x :: st) im rm = evL X 242 [v0, v1, v2, v3] (.int (x + y) :: st) (im) (rm) := evL_iadd pm_m0 d0_241 rfl
theorem d0_242 : decode code 242 = .ok (.iaload, 1) := by decide +kernel
theorem s0_242 {X : Nat × (Nat → Int32)} {v0 v1 v2 v3 : Value} {i : Int32} {st : List Value} {im : IM} {rm : RM} (hk : kd 1000300 = 99) (hi : pm_in i X.1 = true) : evL X 242 [v0, v1, v2, v3] (.int i :: .ref 1000300 :: st) im rm = evL X 243 [v0, v1, v2, v3] (.int (X.2 i.toNatClampNeg) :: st) (im) (rm) := evL_sld pm_m0 rfl d0_242 hk hi rfl
theorem d0_243 : decode code 243 = .ok (.aload_n 0, 1) := by decide +kernel
theorem s0_243 {X : Nat × (Nat → Int32)} {v1 v2 v3 : Value} {l1 : Nat} {st : List Value} {im : IM} {rm : RM}  : evL X 243 [.ref l1, v1, v2, v3] st im rm = evL X 244 [.ref l1, v1, v2, v3] (.ref l1 :: st) (im) (rm) := evL_aload_n pm_m0 d0_243 rfl rfl
theorem d0_244 : decode code 244 = .ok (.iload_n 3, 1) := by decide +kernel
theorem s0_244 {X : Nat × (Nat → Int32)} {v0 v1 v2 : Value} {l1 : Int32} {st : List Value} {im : IM} {rm : RM}  : evL X 244 [v0, v1, v2, .int l1] st im rm = evL X 245 [v0, v1, v2, .int l1] (.int l1 :: st) (im) (rm) := evL_iload_n pm_m0 d0_244 rfl rfl
theorem d0_245 : decode code 245 = .ok (.iconst 4, 1) := by decide +kernel
theorem s0_245 {X : Nat × (Nat → Int32)} {v0 v1 v2 v3 : Value}  {st : List Value} {im : IM} {rm : RM}  : evL X 245 [v0, v1, v2, v3] st im rm = evL X 246 [v0, v1, v2, v3] (.int (nI 4) :: st) (im) (rm) := evL_iconst pm_m0 d0_245 rfl rfl
theorem d0_246 : decode code 246 = .ok (.iadd, 1) := by decide +kernel
theorem s0_246 {X : Nat × (Nat → Int32)} {v0 v1 v2 v3 : Value} {x : Int32} {y : Int32} {st : List Value} {im : IM} {rm : RM}  : evL X 246 [v0, v1, v2, v3] (.int y :: .int x :: st) im rm = evL X 247 [v0, v1, v2, v3] (.int (x + y) :: st) (im) (rm) := evL_iadd pm_m0 d0_246 rfl
theorem d0_247 : decode code 247 = .ok (.iaload, 1) := by decide +kernel
theorem s0_247 {X : Nat × (Nat → Int32)} {v0 v1 v2 v3 : Value} {i : Int32} {st : List Value} {im : IM} {rm : RM} (hk : kd 1000300 = 99) (hi : pm_in i X.1 = true) : evL X 247 [v0, v1, v2, v3] (.int i :: .ref 1000300 :: st) im rm = evL X 248 [v0, v1, v2, v3] (.int (X.2 i.toNatClampNeg) :: st) (im) (rm) := evL_sld pm_m0 rfl d0_247 hk hi rfl
theorem d0_248 : decode code 248 = .ok (.aload_n 0, 1) := by decide +kernel
theorem s0_248 {X : Nat × (Nat → Int32)} {v1 v2 v3 : Value} {l1 : Nat} {st : List Value} {im : IM} {rm : RM}  : evL X 248 [.ref l1, v1, v2, v3] st im rm = evL X 249 [.ref l1, v1, v2, v3] (.ref l1 :: st) (im) (rm) := evL_aload_n pm_m0 d0_248 rfl rfl
theorem d0_249 : decode code 249 = .ok (.iload_n 3, 1) := by decide +kernel
theorem s0_249 {X : Nat × (Nat → Int32)} {v0 v1 v2 : Value} {l1 : Int32} {st : List Value} {im : IM} {rm : RM}  : evL X 249 [v0, v1, v2, .int l1] st im rm = evL X 250 [v0, v1, v2, .int l1] (.int l1 :: st) (im) (rm) := evL_iload_n pm_m0 d0_249 rfl rfl
theorem d0_250 : decode code 250 = .ok (.iconst 5, 1) := by decide +kernel
theorem s0_250 {X : Nat × (Nat → Int32)} {v0 v1 v2 v3 : Value}  {st : List Value} {im : IM} {rm : RM}  : evL X 250 [v0, v1, v2, v3] st im rm = evL X 251 [v0, v1, v2, v3] (.int (nI 5) :: st) (im) (rm) := evL_iconst pm_m0 d0_250 rfl rfl
theorem d0_251 : decode code 251 = .ok (.iadd, 1) := by decide +kernel
theorem s0_251 {X : Nat × (Nat → Int32)} {v0 v1 v2 v3 : Value} {x : Int32} {y : Int32} {st : List Value} {im : IM} {rm : RM}  : evL X 251 [v0, v1, v2, v3] (.int y :: .int x :: st) im rm = evL X 252 [v0, v1, v2, v3] (.int (x + y) :: st) (im) (rm) := evL_iadd pm_m0 d0_251 rfl
theorem d0_252 : decode code 252 = .ok (.iaload, 1) := by decide +kernel
theorem s0_252 {X : Nat × (Nat → Int32)} {v0 v1 v2 v3 : Value} {i : Int32} {st : List Value} {im : IM} {rm : RM} (hk : kd 1000300 = 99) (hi : pm_in i X.1 = true) : evL X 252 [v0, v1, v2, v3] (.int i :: .ref 1000300 :: st) im rm = evL X 253 [v0, v1, v2, v3] (.int (X.2 i.toNatClampNeg) :: st) (im) (rm) := evL_sld pm_m0 rfl d0_252 hk hi rfl
theorem d0_253 : decode code 253 = .ok (.aload_n 0, 1) := by decide +kernel
theorem s0_253 {X : Nat × (Nat → Int32)} {v1 v2 v3 : Value} {l1 : Nat} {st : List Value} {im : IM} {rm : RM}  : evL X 253 [.ref l1, v1, v2, v3] st im rm = evL X 254 [.ref l1, v1, v2, v3] (.ref l1 :: st) (im) (rm) := evL_aload_n pm_m0 d0_253 rfl rfl
theorem d0_254 : decode code 254 = .ok (.iload_n 3, 1) := by decide +kernel
theorem s0_254 {X : Nat × (Nat → Int32)} {v0 v1 v2 : Value} {l1 : Int32} {st : List Value} {im : IM} {rm : RM}  : evL X 254 [v0, v1, v2, .int l1] st im rm = evL X 255 [v0, v1, v2, .int l1] (.int l1 :: st) (im) (rm) := evL_iload_n pm_m0 d0_254 rfl rfl
theorem d0_255 : decode code 255 = .ok (.bipush 6, 2) := by decide +kernel
theorem s0_255 {X : Nat × (Nat → Int32)} {v0 v1 v2 v3 : Value}  {st : List Value} {im : IM} {rm : RM}  : evL X 255 [v0, v1, v2, v3] st im rm = evL X 257 [v0, v1, v2, v3] (.int (nI 6) :: st) (im) (rm) := evL_bipush pm_m0 d0_255 rfl rfl
theorem d0_257 : decode code 257 = .ok (.iadd, 1) := by decide +kernel
theorem s0_257 {X : Nat × (Nat → Int32)} {v0 v1 v2 v3 : Value} {x : Int32} {y : Int32} {st : List Value} {im : IM} {rm : RM}  : evL X 257 [v0, v1, v2, v3] (.int y :: .int x :: st) im rm = evL X 258 [v0, v1, v2, v3] (.int (x + y) :: st) (im) (rm) := evL_iadd pm_m0 d0_257 rfl
theorem d0_258 : decode code 258 = .ok (.iaload, 1) := by decide +kernel
theorem s0_258 {X : Nat × (Nat → Int32)} {v0 v1 v2 v3 : Value} {i : Int32} {st : List Value} {im : IM} {rm : RM} (hk : kd 1000300 = 99) (hi : pm_in i X.1 = true) : evL X 258 [v0, v1, v2, v3] (.int i :: .ref 1000300 :: st) im rm = evL X 259 [v0, v1, v2, v3] (.int (X.2 i.toNatClampNeg) :: st) (im) (rm) := evL_sld pm_m0 rfl d0_258 hk hi rfl
theorem d0_259 : decode code 259 = .ok (.invokevirtual 18, 3) := by decide +kernel
theorem s0_259 {X : Nat × (Nat → Int32)} {v0 v1 v2 v3 : Value} {a : Nat} {p1 : Int32} {p2 : Int32} {p3 : Int32} {p4 : Int32} {p5 : Int32} {p6 : Int32} {im : IM} {rm : RM} (hk : kd a = 17) : evL X 259 [v0, v1, v2, v3] [.int p6, .int p5, .int p4, .int p3, .int p2, .int p1, .ref a] im rm = (ev 42 0 [.ref a, .int p1, .int p2, .int p3, .int p4, .int p5, .int p6, pm_u] [] im rm).bind (fun r => evL X 262 [v0, v1, v2, v3] (r.1.toList ++ []) r.2.1 r.2.2) := evL_callV pm_m0 d0_259 l9_18 rfl pm_m42 (by decide) hk rfl ⟨rfl, rfl⟩ rfl rfl
theorem d0_262 : decode code 262 = .ok (.aload_n 2, 1) := by decide +kernel
theorem s0_262 {X : Nat × (Nat → Int32)} {v0 v1 v3 : Value} {l1 : Nat} {st : List Value} {im : IM} {rm : RM}  : evL X 262 [v0, v1, .ref l1, v3] st im rm = evL X 263 [v0, v1, .ref l1, v3] (.ref l1 :: st) (im) (rm) := evL_aload_n pm_m0 d0_262 rfl rfl
theorem d0_263 : decode code 263 = .ok (.aload_n 0, 1) := by decide +kernel
theorem s0_263 {X : Nat × (Nat → Int32)} {v1 v2 v3 : Value} {l1 : Nat} {st : List Value} {im : IM} {rm : RM}  : evL X 263 [.ref l1, v1, v2, v3] st im rm = evL X 264 [.ref l1, v1, v2, v3] (.ref l1 :: st) (im) (rm) := evL_aload_n pm_m0 d0_263 rfl rfl
theorem d0_264 : decode code 264 = .ok (.iload_n 3, 1) := by decide +kernel
theorem s0_264 {X : Nat × (Nat → Int32)} {v0 v1 v2 : Value} {l1 : Int32} {st : List Value} {im : IM} {rm : RM}  : evL X 264 [v0, v1, v2, .int l1] st im rm = evL X 265 [v0, v1, v2, .int l1] (.int l1 :: st) (im) (rm) := evL_iload_n pm_m0 d0_264 rfl rfl
theorem d0_265 : decode code 265 = .ok (.iconst 1, 1) := by decide +kernel
theorem s0_265 {X : Nat × (Nat → Int32)} {v0 v1 v2 v3 : Value}  {st : List Value} {im : IM} {rm : RM}  : evL X 265 [v0, v1, v2, v3] st im rm = evL X 266 [v0, v1, v2, v3] (.int (nI 1) :: st) (im) (rm) := evL_iconst pm_m0 d0_265 rfl rfl
theorem d0_266 : decode code 266 = .ok (.iadd, 1) := by decide +kernel
theorem s0_266 {X : Nat × (Nat → Int32)} {v0 v1 v2 v3 : Value} {x : Int32} {y : Int32} {st : List Value} {im : IM} {rm : RM}  : evL X 266 [v0, v1, v2, v3] (.int y :: .int x :: st) im rm = evL X 267 [v0, v1, v2, v3] (.int (x + y) :: st) (im) (rm) := evL_iadd pm_m0 d0_266 rfl
theorem d0_267 : decode code 267 = .ok (.iaload, 1) := by decide +kernel
theorem s0_267 {X : Nat × (Nat → Int32)} {v0 v1 v2 v3 : Value} {i : Int32} {st : List Value} {im : IM} {rm : RM} (hk : kd 1000300 = 99) (hi : pm_in i X.1 = true) : evL X 267 [v0, v1, v2, v3] (.int i :: .ref 1000300 :: st) im rm = evL X 268 [v0, v1, v2, v3] (.int (X.2 i.toNatClampNeg) :: st) (im) (rm) := evL_sld pm_m0 rfl d0_267 hk hi rfl
theorem d0_268 : decode code 268 = .ok (.aload_n 0, 1) := by decide +kernel
theorem s0_268 {X : Nat × (Nat → Int32)} {v1 v2 v3 : Value} {l1 : Nat} {st : List Value} {im : IM} {rm : RM}  : evL X 268 [.ref l1, v1, v2, v3] st im rm = evL X 269 [.ref l1, v1, v2, v3] (.ref l1 :: st) (im) (rm) := evL_aload_n pm_m0 d0_268 rfl rfl
theorem d0_269 : decode code 269 = .ok (.iload_n 3, 1) := by decide +kernel
theorem s0_269 {X : Nat × (Nat → Int32)} {v0 v1 v2 : Value} {l1 : Int32} {st : List Value} {im : IM} {rm : RM}  : evL X 269 [v0, v1, v2, .int l1] st im rm = evL X 270 [v0, v1, v2, .int l1] (.int l1 :: st) (im) (rm) := evL_iload_n pm_m0 d0_269 rfl rfl
theorem d0_270 : decode code 270 = .ok (.iconst 2, 1) := by decide +kernel
theorem s0_270 {X : Nat × (Nat → Int32)} {v0 v1 v2 v3 : Value}  {st : List Value} {im : IM} {rm : RM}  : evL X 270 [v0, v1, v2, v3] st im rm = evL X 271 [v0, v1, v2, v3] (.int (nI 2) :: st) (im) (rm) := evL_iconst pm_m0 d0_270 rfl rfl
theorem d0_271 : decode code 271 = .ok (.iadd, 1) := by decide +kernel
theorem s0_271 {X : Nat × (Nat → Int32)} {v0 v1 v2 v3 : Value} {x : Int32} {y : Int32} {st : List Value} {im : IM} {rm : RM}  : evL X 271 [v0, v1, v2, v3] (.int y :: .int x :: st) im rm = evL X 272 [v0, v1, v2, v3] (.int (x + y) :: st) (im) (rm) := evL_iadd pm_m0 d0_271 rfl
theorem d0_272 : decode code 272 = .ok (.iaload, 1) := by decide +kernel
theorem s0_272 {X : Nat × (Nat → Int32)} {v0 v1 v2 v3 : Value} {i : Int32} {st : List Value} {im : IM} {rm : RM} (hk : kd 1000300 = 99) (hi : pm_in i X.1 = true) : evL X 272 [v0, v1, v2, v3] (.int i :: .ref 1000300 :: st) im rm = evL X 273 [v0, v1, v2, v3] (.int (X.2 i.toNatClampNeg) :: st) (im) (rm) := evL_sld pm_m0 rfl d0_272 hk hi rfl
theorem d0_273 : decode code 273 = .ok (.aload_n 0, 1) := by decide +kernel
theorem s0_273 {X : Nat × (Nat → Int32)} {v1 v2 v3 : Value} {l1 : Nat} {st : List Value} {im : IM} {rm : RM}  : evL X 273 [.ref l1, v1, v2, v3] st im rm = evL X 274 [.ref l1, v1, v2, v3] (.ref l1 :: st) (im) (rm) := evL_aload_n pm_m0 d0_273 rfl rfl
theorem d0_274 : decode code 274 = .ok (.iload_n 3, 1) := by decide +kernel
theorem s0_274 {X : Nat × (Nat → Int32)} {v0 v1 v2 : Value} {l1 : Int32} {st : List Value} {im : IM} {rm : RM}  : evL X 274 [v0, v1, v2, .int l1] st im rm = evL X 275 [v0, v1, v2, .int l1] (.int l1 :: st) (im) (rm) := evL_iload_n pm_m0 d0_274 rfl rfl
theorem d0_275 : decode code 275 = .ok (.iconst 3, 1) := by decide +kernel
theorem s0_275 {X : Nat × (Nat → Int32)} {v0 v1 v2 v3 : Value}  {st : List Value} {im : IM} {rm : RM}  : evL X 275 [v0, v1, v2, v3] st im rm = evL X 276 [v0, v1, v2, v3] (.int (nI 3) :: st) (im) (rm) := evL_iconst pm_m0 d0_275 rfl rfl
theorem d0_276 : decode code 276 = .ok (.iadd, 1) := by decide +kernel
theorem s0_276 {X : Nat × (Nat → Int32)} {v0 v1 v2 v3 : Value} {x : Int32} {y : Int32} {st : List Value} {im : IM} {rm : RM}  : evL X 276 [v0, v1, v2, v3] (.int y :: .int x :: st) im rm = evL X 277 [v0, v1, v2, v3] (.int (x + y) :: st) (im) (rm) := evL_iadd pm_m0 d0_276 rfl
theorem d0_277 : decode code 277 = .ok (.iaload, 1) := by decide +kernel
theorem s0_277 {X : Nat × (Nat → Int32)} {v0 v1 v2 v3 : Value} {i : Int32} {st : List Value} {im : IM} {rm : RM} (hk : kd 1000300 = 99) (hi : pm_in i X.1 = true) : evL X 277 [v0, v1, v2, v3] (.int i :: .ref 1000300 :: st) im rm = evL X 278 [v0, v1, v2, v3] (.int (X.2 i.toNatClampNeg) :: st) (im) (rm) := evL_sld pm_m0 rfl d0_277 hk hi rfl
theorem d0_278 : decode code 278 = .ok (.aload_n 0, 1) := by decide +kernel
theorem s0_278 {X : Nat × (Nat → Int32)} {v1 v2 v3 : Value} {l1 : Nat} {st : List Value} {im : IM} {rm : RM}  : evL X 278 [.ref l1, v1, v2, v3] st im rm = evL X 279 [.ref l1, v1, v2, v3] (.ref l1 :: st) (im) (rm) := evL_aload_n pm_m0 d0_278 rfl rfl
theorem d0_279 : decode code 279 = .ok (.iload_n 3, 1) := by decide +kernel
theorem s0_279 {X : Nat × (Nat → Int32)} {v0 v1 v2 : Value} {l1 : Int32} {st : List Value} {im : IM} {rm : RM}  : evL X 279 [v0, v1, v2, .int l1] st im rm = evL X 280 [v0, v1, v2, .int l1] (.int l1 :: st) (im) (rm) := evL_iload_n pm_m0 d0_279 rfl rfl
theorem d0_280 : decode code 280 = .ok (.iconst 4, 1) := by decide +kernel
theorem s0_280 {X : Nat × (Nat → Int32)} {v0 v1 v2 v3 : Value}  {st : List Value} {im : IM} {rm : RM}  : evL X 280 [v0, v1, v2, v3] st im rm = evL X 281 [v0, v1, v2, v3] (.int (nI 4) :: st) (im) (rm) := evL_iconst pm_m0 d0_280 rfl rfl
theorem d0_281 : decode code 281 = .ok (.iadd, 1) := by decide +kernel
theorem s0_281 {X : Nat × (Nat → Int32)} {v0 v1 v2 v3 : Value} {x : Int32} {y : Int32} {st : List Value} {im : IM} {rm : RM}  : evL X 281 [v0, v1, v2, v3] (.int y :: .int x :: st) im rm = evL X 282 [v0, v1, v2, v3] (.int (x + y) :: st) (im) (rm) := evL_iadd pm_m0 d0_281 rfl
theorem d0_282 : decode code 282 = .ok (.iaload, 1) := by decide +kernel
theorem s0_282 {X : Nat × (Nat → Int32)} {v0 v1 v2 v3 : Value} {i : Int32} {st : List Value} {im : IM} {rm : RM} (hk : kd 1000300 = 99) (hi : pm_in i X.1 = true) : evL X 282 [v0, v1, v2, v3] (.int i :: .ref 1000300 :: st) im rm = evL X 283 [v0, v1, v2, v3] (.int (X.2 i.toNatClampNeg) :: st) (im) (rm) := evL_sld pm_m0 rfl d0_282 hk hi rfl
theorem d0_283 : decode code 283 = .ok (.aload_n 0, 1) := by decide +kernel
theorem s0_283 {X : Nat × (Nat → Int32)} {v1 v2 v3 : Value} {l1 : Nat} {st : List Value} {im : IM} {rm : RM}  : evL X 283 [.ref l1, v1, v2, v3] st im rm = evL X 284 [.ref l1, v1, v2, v3] (.ref l1 :: st) (im) (rm) := evL_aload_n pm_m0 d0_283 rfl rfl
theorem d0_284 : decode code 284 = .ok (.iload_n 3, 1) := by decide +kernel
theorem s0_284 {X : Nat × (Nat → Int32)} {v0 v1 v2 : Value} {l1 : Int32} {st : List Value} {im : IM} {rm : RM}  : evL X 284 [v0, v1, v2, .int l1] st im rm = evL X 285 [v0, v1, v2, .int l1] (.int l1 :: st) (im) (rm) := evL_iload_n pm_m0 d0_284 rfl rfl
theorem d0_285 : decode code 285 = .ok (.iconst 5, 1) := by decide +kernel
theorem s0_285 {X : Nat × (Nat → Int32)} {v0 v1 v2 v3 : Value}  {st : List Value} {im : IM} {rm : RM}  : evL X 285 [v0, v1, v2, v3] st im rm = evL X 286 [v0, v1, v2, v3] (.int (nI 5) :: st) (im) (rm) := evL_iconst pm_m0 d0_285 rfl rfl
theorem d0_286 : decode code 286 = .ok (.iadd, 1) := by decide +kernel
theorem s0_286 {X : Nat × (Nat → Int32)} {v0 v1 v2 v3 : Value} {x : Int32} {y : Int32} {st : List Value} {im : IM} {rm : RM}  : evL X 286 [v0, v1, v2, v3] (.int y :: .int x :: st) im rm = evL X 287 [v0, v1, v2, v3] (.int (x + y) :: st) (im) (rm) := evL_iadd pm_m0 d0_286 rfl
theorem d0_287 : decode code 287 = .ok (.iaload, 1) := by decide +kernel
theorem s0_287 {X : Nat × (Nat → Int32)} {v0 v1 v2 v3 : Value} {i : Int32} {st : List Value} {im : IM} {rm : RM} (hk : kd 1000300 = 99) (hi : pm_in i X.1 = true) : evL X 287 [v0, v1, v2, v3] (.int i :: .ref 1000300 :: st) im rm = evL X 288 [v0, v1, v2, v3] (.int (X.2 i.toNatClampNeg) :: st) (im) (rm) := evL_sld pm_m0 rfl d0_287 hk hi rfl
theorem d0_288 : decode code 288 = .ok (.aload_n 0, 1) := by decide +kernel
theorem s0_288 {X : Nat × (Nat → Int32)} {v1 v2 v3 : Value} {l1 : Nat} {st : List Value} {im : IM} {rm : RM}  : evL X 288 [.ref l1, v1, v2, v3] st im rm = evL X 289 [.ref l1, v1, v2, v3] (.ref l1 :: st) (im) (rm) := evL_aload_n pm_m0 d0_288 rfl rfl
theorem d0_289 : decode code 289 = .ok (.iload_n 3, 1) := by decide +kernel
theorem s0_289 {X : Nat × (Nat → Int32)} {v0 v1 v2 : Value} {l1 : Int32} {st : List Value} {im : IM} {rm : RM}  : evL X 289 [v0, v1, v2, .int l1] st im rm = evL X 290 [v0, v1, v2, .int l1] (.int l1 :: st) (im) (rm) := evL_iload_n pm_m0 d0_289 rfl rfl
theorem d0_290 : decode code 290 = .ok (.bipush 6, 2) := by decide +kernel
theorem s0_290 {X : Nat × (Nat → Int32)} {v0 v1 v2 v3 : Value}  {st : List Value} {im : IM} {rm : RM}  : evL X 290 [v0, v1, v2, v3] st im rm = evL X 292 [v0, v1, v2, v3] (.int (nI 6) :: st) (im) (rm) := evL_bipush pm_m0 d0_290 rfl rfl
theorem d0_292 : decode code 292 = .ok (.iadd, 1) := by decide +kernel
theorem s0_292 {X : Nat × (Nat → Int32)} {v0 v1 v2 v3 : Value} {x : Int32} {y : Int32} {st : List Value} {im : IM} {rm : RM}  : evL X 292 [v0, v1, v2, v3] (.int y :: .int x :: st) im rm = evL X 293 [v0, v1, v2, v3] (.int (x + y) :: st) (im) (rm) := evL_iadd pm_m0 d0_292 rfl
theorem d0_293 : decode code 293 = .ok (.iaload, 1) := by decide +kernel
theorem s0_293 {X : Nat × (Nat → Int32)} {v0 v1 v2 v3 : Value} {i : Int32} {st : List Value} {im : IM} {rm : RM} (hk : kd 1000300 = 99) (hi : pm_in i X.1 = true) : evL X 293 [v0, v1, v2, v3] (.int i :: .ref 1000300 :: st) im rm = evL X 294 [v0, v1, v2, v3] (.int (X.2 i.toNatClampNeg) :: st) (im) (rm) := evL_sld pm_m0 rfl d0_293 hk hi rfl
theorem d0_294 : decode code 294 = .ok (.invokevirtual 22, 3) := by decide +kernel
theorem s0_294 {X : Nat × (Nat → Int32)} {v0 v1 v2 v3 : Value} {a : Nat} {p1 : Int32} {p2 : Int32} {p3 : Int32} {p4 : Int32} {p5 : Int32} {p6 : Int32} {r7 : Int32} {im : IM} {rm : RM} (hk : kd a = 18) : evL X 294 [v0, v1, v2, v3] [.int p6, .int p5, .int p4, .int p3, .int p2, .int p1, .ref a, .int r7] im rm = (ev 110 0 [.ref a, .int p1, .int p2, .int p3, .int p4, .int p5, .int p6, pm_u] [] im rm).bind (fun r => evL X 297 [v0, v1, v2, v3] (r.1.toList ++ [.int r7]) r.2.1 r.2.2) := evL_callV pm_m0 d0_294 l9_22 rfl pm_m110 (by decide) hk rfl ⟨rfl, rfl⟩ rfl rfl
theorem d0_297 : decode code 297 = .ok (.if_icmp .eq 1052, 3) := by decide +kernel
theorem s0_297 {X : Nat × (Nat → Int32)} {v0 v1 v2 v3 : Value} {x : Int32} {y : Int32} {st : List Value} {im : IM} {rm : RM} : evL X 297 [v0, v1, v2, v3] (.int y :: .int x :: st) im rm = if x = y then evL X 1349 [v0, v1, v2, v3] st im rm else evL X 300 [v0, v1, v2, v3] st im rm := evL_icmp_eq pm_m0 d0_297 rfl rfl rfl
theorem d0_300 : decode code 300 = .ok (.iconst 0, 1) := by decide +kernel
theorem s0_300 {X : Nat × (Nat → Int32)} {v0 v1 v2 v3 : Value}  {st : List Value} {im : IM} {rm : RM}  : evL X 300 [v0, v1, v2, v3] st im rm = evL X 301 [v0, v1, v2, v3] (.int (nI 0) :: st) (im) (rm) := evL_iconst pm_m0 d0_300 rfl rfl
theorem d0_301 : decode code 301 = .ok (.ireturn, 1) := by decide +kernel
theorem s0_301 {X : Nat × (Nat → Int32)} {v0 v1 v2 v3 : Value} {x : Int32} {im : IM} {rm : RM} (hx : x = 0 ∨ x = 1) : evL X 301 [v0, v1, v2, v3] [.int x] im rm = some (some (.int x), im, rm) := evL_zreturn pm_m0 d0_301 rfl hx (by decide)
theorem d0_302 : decode code 302 = .ok (.aload_n 1, 1) := by decide +kernel
theorem s0_302 {X : Nat × (Nat → Int32)} {v0 v2 v3 : Value} {l1 : Nat} {st : List Value} {im : IM} {rm : RM}  : evL X 302 [v0, .ref l1, v2, v3] st im rm = evL X 303 [v0, .ref l1, v2, v3] (.ref l1 :: st) (im) (rm) := evL_aload_n pm_m0 d0_302 rfl rfl
theorem d0_303 : decode code 303 = .ok (.aload_n 0, 1) := by decide +kernel
theorem s0_303 {X : Nat × (Nat → Int32)} {v1 v2 v3 : Value} {l1 : Nat} {st : List Value} {im : IM} {rm : RM}  : evL X 303 [.ref l1, v1, v2, v3] st im rm = evL X 304 [.ref l1, v1, v2, v3] (.ref l1 :: st) (im) (rm) := evL_aload_n pm_m0 d0_303 rfl rfl
theorem d0_304 : decode code 304 = .ok (.iload_n 3, 1) := by decide +kernel
theorem s0_304 {X : Nat × (Nat → Int32)} {v0 v1 v2 : Value} {l1 : Int32} {st : List Value} {im : IM} {rm : RM}  : evL X 304 [v0, v1, v2, .int l1] st im rm = evL X 305 [v0, v1, v2, .int l1] (.int l1 :: st) (im) (rm) := evL_iload_n pm_m0 d0_304 rfl rfl
theorem d0_305 : decode code 305 = .ok (.iconst 1, 1) := by decide +kernel
theorem s0_305 {X : Nat × (Nat → Int32)} {v0 v1 v2 v3 : Value}  {st : List Value} {im : IM} {rm : RM}  : evL X 305 [v0, v1, v2, v3] st im rm = evL X 306 [v0, v1, v2, v3] (.int (nI 1) :: st) (im) (rm) := evL_iconst pm_m0 d0_305 rfl rfl
theorem d0_306 : decode code 306 = .ok (.iadd, 1) := by decide +kernel
theorem s0_306 {X : Nat × (Nat → Int32)} {v0 v1 v2 v3 : Value} {x : Int32} {y : Int32} {st : List Value} {im : IM} {rm : RM}  : evL X 306 [v0, v1, v2, v3] (.int y :: .int x :: st) im rm = evL X 307 [v0, v1, v2, v3] (.int (x + y) :: st) (im) (rm) := evL_iadd pm_m0 d0_306 rfl
theorem d0_307 : decode code 307 = .ok (.iaload, 1) := by decide +kernel
theorem s0_307 {X : Nat × (Nat → Int32)} {v0 v1 v2 v3 : Value} {i : Int32} {st : List Value} {im : IM} {rm : RM} (hk : kd 1000300 = 99) (hi : pm_in i X.1 = true) : evL X 307 [v0, v1, v2, v3] (.int i :: .ref 1000300 :: st) im rm = evL X 308 [v0, v1, v2, v3] (.int (X.2 i.toNatClampNeg) :: st) (im) (rm) := evL_sld pm_m0 rfl d0_307 hk hi rfl
theorem d0_308 : decode code 308 = .ok (.aload_n 0, 1) := by decide +kernel
theorem s0_308 {X : Nat × (Nat → Int32)} {v1 v2 v3 : Value} {l1 : Nat} {st : List Value} {im : IM} {rm : RM}  : evL X 308 [.ref l1, v1, v2, v3] st im rm = evL X 309 [.ref l1, v1, v2, v3] (.ref l1 :: st) (im) (rm) := evL_aload_n pm_m0 d0_308 rfl rfl
theorem d0_309 : decode code 309 = .ok (.iload_n 3, 1) := by decide +kernel
theorem s0_309 {X : Nat × (Nat → Int32)} {v0 v1 v2 : Value} {l1 : Int32} {st : List Value} {im : IM} {rm : RM}  : evL X 309 [v0, v1, v2, .int l1] st im rm = evL X 310 [v0, v1, v2, .int l1] (.int l1 :: st) (im) (rm) := evL_iload_n pm_m0 d0_309 rfl rfl
theorem d0_310 : decode code 310 = .ok (.iconst 2, 1) := by decide +kernel
theorem s0_310 {X : Nat × (Nat → Int32)} {v0 v1 v2 v3 : Value}  {st : List Value} {im : IM} {rm : RM}  : evL X 310 [v0, v1, v2, v3] st im rm = evL X 311 [v0, v1, v2, v3] (.int (nI 2) :: st) (im) (rm) := evL_iconst pm_m0 d0_310 rfl rfl
theorem d0_311 : decode code 311 = .ok (.iadd, 1) := by decide +kernel
theorem s0_311 {X : Nat × (Nat → Int32)} {v0 v1 v2 v3 : Value} {x : Int32} {y : Int32} {st : List Value} {im : IM} {rm : RM}  : evL X 311 [v0, v1, v2, v3] (.int y :: .int x :: st) im rm = evL X 312 [v0, v1, v2, v3] (.int (x + y) :: st) (im) (rm) := evL_iadd pm_m0 d0_311 rfl
theorem d0_312 : decode code 312 = .ok (.iaload, 1) := by decide +kernel
theorem s0_312 {X : Nat × (Nat → Int32)} {v0 v1 v2 v3 : Value} {i : Int32} {st : List Value} {im : IM} {rm : RM} (hk : kd 1000300 = 99) (hi : pm_in i X.1 = true) : evL X 312 [v0, v1, v2, v3] (.int i :: .ref 1000300 :: st) im rm = evL X 313 [v0, v1, v2, v3] (.int (X.2 i.toNatClampNeg) :: st) (im) (rm) := evL_sld pm_m0 rfl d0_312 hk hi rfl
theorem d0_313 : decode code 313 = .ok (.aload_n 0, 1) := by decide +kernel
theorem s0_313 {X : Nat × (Nat → Int32)} {v1 v2 v3 : Value} {l1 : Nat} {st : List Value} {im : IM} {rm : RM}  : evL X 313 [.ref l1, v1, v2, v3] st im rm = evL X 314 [.ref l1, v1, v2, v3] (.ref l1 :: st) (im) (rm) := evL_aload_n pm_m0 d0_313 rfl rfl
theorem d0_314 : decode code 314 = .ok (.iload_n 3, 1) := by decide +kernel
theorem s0_314 {X : Nat × (Nat → Int32)} {v0 v1 v2 : Value} {l1 : Int32} {st : List Value} {im : IM} {rm : RM}  : evL X 314 [v0, v1, v2, .int l1] st im rm = evL X 315 [v0, v1, v2, .int l1] (.int l1 :: st) (im) (rm) := evL_iload_n pm_m0 d0_314 rfl rfl
theorem d0_315 : decode code 315 = .ok (.iconst 3, 1) := by decide +kernel
theorem s0_315 {X : Nat × (Nat → Int32)} {v0 v1 v2 v3 : Value}  {st : List Value} {im : IM} {rm : RM}  : evL X 315 [v0, v1, v2, v3] st im rm = evL X 316 [v0, v1, v2, v3] (.int (nI 3) :: st) (im) (rm) := evL_iconst pm_m0 d0_315 rfl rfl
theorem d0_316 : decode code 316 = .ok (.iadd, 1) := by decide +kernel
theorem s0_316 {X : Nat × (Nat → Int32)} {v0 v1 v2 v3 : Value} {x : Int32} {y : Int32} {st : List Value} {im : IM} {rm : RM}  : evL X 316 [v0, v1, v2, v3] (.int y :: .int x :: st) im rm = evL X 317 [v0, v1, v2, v3] (.int (x + y) :: st) (im) (rm) := evL_iadd pm_m0 d0_316 rfl
theorem d0_317 : decode code 317 = .ok (.iaload, 1) := by decide +kernel
theorem s0_317 {X : Nat × (Nat → Int32)} {v0 v1 v2 v3 : Value} {i : Int32} {st : List Value} {im : IM} {rm : RM} (hk : kd 1000300 = 99) (hi : pm_in i X.1 = true) : evL X 317 [v0, v1, v2, v3] (.int i :: .ref 1000300 :: st) im rm = evL X 318 [v0, v1, v2, v3] (.int (X.2 i.toNatClampNeg) :: st) (im) (rm) := evL_sld pm_m0 rfl d0_317 hk hi rfl
theorem d0_318 : decode code 318 = .ok (.invokevirtual 23, 3) := by decide +kernel
theorem s0_318 {X : Nat × (Nat → Int32)} {v0 v1 v2 v3 : Value} {a : Nat} {p1 : Int32} {p2 : Int32} {p3 : Int32} {im : IM} {rm : RM} (hk : kd a = 17) : evL X 318 [v0, v1, v2, v3] [.int p3, .int p2, .int p1, .ref a] im rm = (ev 43 0 [.ref a, .int p1, .int p2, .int p3] [] im rm).bind (fun r => evL X 321 [v0, v1, v2, v3] (r.1.toList ++ []) r.2.1 r.2.2) := evL_callV pm_m0 d0_318 l9_23 rfl pm_m43 (by decide) hk rfl ⟨rfl, rfl⟩ rfl rfl
theorem d0_321 : decode code 321 = .ok (.aload_n 2, 1) := by decide +kernel
theorem s0_321 {X : Nat × (Nat → Int32)} {v0 v1 v3 : Value} {l1 : Nat} {st : List Value} {im : IM} {rm : RM}  : evL X 321 [v0, v1, .ref l1, v3] st im rm = evL X 322 [v0, v1, .ref l1, v3] (.ref l1 :: st) (im) (rm) := evL_aload_n pm_m0 d0_321 rfl rfl
theorem d0_322 : decode code 322 = .ok (.aload_n 0, 1) := by decide +kernel
theorem s0_322 {X : Nat × (Nat → Int32)} {v1 v2 v3 : Value} {l1 : Nat} {st : List Value} {im : IM} {rm : RM}  : evL X 322 [.ref l1, v1, v2, v3] st im rm = evL X 323 [.ref l1, v1, v2, v3] (.ref l1 :: st) (im) (rm) := evL_aload_n pm_m0 d0_322 rfl rfl
theorem d0_323 : decode code 323 = .ok (.iload_n 3, 1) := by decide +kernel
theorem s0_323 {X : Nat × (Nat → Int32)} {v0 v1 v2 : Value} {l1 : Int32} {st : List Value} {im : IM} {rm : RM}  : evL X 323 [v0, v1, v2, .int l1] st im rm = evL X 324 [v0, v1, v2, .int l1] (.int l1 :: st) (im) (rm) := evL_iload_n pm_m0 d0_323 rfl rfl
theorem d0_324 : decode code 324 = .ok (.iconst 1, 1) := by decide +kernel
theorem s0_324 {X : Nat × (Nat → Int32)} {v0 v1 v2 v3 : Value}  {st : List Value} {im : IM} {rm : RM}  : evL X 324 [v0, v1, v2, v3] st im rm = evL X 325 [v0, v1, v2, v3] (.int (nI 1) :: st) (im) (rm) := evL_iconst pm_m0 d0_324 rfl rfl
theorem d0_325 : decode code 325 = .ok (.iadd, 1) := by decide +kernel
theorem s0_325 {X : Nat × (Nat → Int32)} {v0 v1 v2 v3 : Value} {x : Int32} {y : Int32} {st : List Value} {im : IM} {rm : RM}  : evL X 325 [v0, v1, v2, v3] (.int y :: .int x :: st) im rm = evL X 326 [v0, v1, v2, v3] (.int (x + y) :: st) (im) (rm) := evL_iadd pm_m0 d0_325 rfl
theorem d0_326 : decode code 326 = .ok (.iaload, 1) := by decide +kernel
theorem s0_326 {X : Nat × (Nat → Int32)} {v0 v1 v2 v3 : Value} {i : Int32} {st : List Value} {im : IM} {rm : RM} (hk : kd 1000300 = 99) (hi : pm_in i X.1 = true) : evL X 326 [v0, v1, v2, v3] (.int i :: .ref 1000300 :: st) im rm = evL X 327 [v0, v1, v2, v3] (.int (X.2 i.toNatClampNeg) :: st) (im) (rm) := evL_sld pm_m0 rfl d0_326 hk hi rfl
theorem d0_327 : decode code 327 = .ok (.aload_n 0, 1) := by decide +kernel
theorem s0_327 {X : Nat × (Nat → Int32)} {v1 v2 v3 : Value} {l1 : Nat} {st : List Value} {im : IM} {rm : RM}  : evL X 327 [.ref l1, v1, v2, v3] st im rm = evL X 328 [.ref l1, v1, v2, v3] (.ref l1 :: st) (im) (rm) := evL_aload_n pm_m0 d0_327 rfl rfl
theorem d0_328 : decode code 328 = .ok (.iload_n 3, 1) := by decide +kernel
theorem s0_328 {X : Nat × (Nat → Int32)} {v0 v1 v2 : Value} {l1 : Int32} {st : List Value} {im : IM} {rm : RM}  : evL X 328 [v0, v1, v2, .int l1] st im rm = evL X 329 [v0, v1, v2, .int l1] (.int l1 :: st) (im) (rm) := evL_iload_n pm_m0 d0_328 rfl rfl
theorem d0_329 : decode code 329 = .ok (.iconst 2, 1) := by decide +kernel
theorem s0_329 {X : Nat × (Nat → Int32)} {v0 v1 v2 v3 : Value}  {st : List Value} {im : IM} {rm : RM}  : evL X 329 [v0, v1, v2, v3] st im rm = evL X 330 [v0, v1, v2, v3] (.int (nI 2) :: st) (im) (rm) := evL_iconst pm_m0 d0_329 rfl rfl
theorem d0_330 : decode code 330 = .ok (.iadd, 1) := by decide +kernel
theorem s0_330 {X : Nat × (Nat → Int32)} {v0 v1 v2 v3 : Value} {x : Int32} {y : Int32} {st : List Value} {im : IM} {rm : RM}  : evL X 330 [v0, v1, v2, v3] (.int y :: .int x :: st) im rm = evL X 331 [v0, v1, v2, v3] (.int (x + y) :: st) (im) (rm) := evL_iadd pm_m0 d0_330 rfl
theorem d0_331 : decode code 331 = .ok (.iaload, 1) := by decide +kernel
theorem s0_331 {X : Nat × (Nat → Int32)} {v0 v1 v2 v3 : Value} {i : Int32} {st : List Value} {im : IM} {rm : RM} (hk : kd 1000300 = 99) (hi : pm_in i X.1 = true) : evL X 331 [v0, v1, v2, v3] (.int i :: .ref 1000300 :: st) im rm = evL X 332 [v0, v1, v2, v3] (.int (X.2 i.toNatClampNeg) :: st) (im) (rm) := evL_sld pm_m0 rfl d0_331 hk hi rfl
theorem d0_332 : decode code 332 = .ok (.aload_n 0, 1) := by decide +kernel
theorem s0_332 {X : Nat × (Nat → Int32)} {v1 v2 v3 : Value} {l1 : Nat} {st : List Value} {im : IM} {rm : RM}  : evL X 332 [.ref l1, v1, v2, v3] st im rm = evL X 333 [.ref l1, v1, v2, v3] (.ref l1 :: st) (im) (rm) := evL_aload_n pm_m0 d0_332 rfl rfl
theorem d0_333 : decode code 333 = .ok (.iload_n 3, 1) := by decide +kernel
theorem s0_333 {X : Nat × (Nat → Int32)} {v0 v1 v2 : Value} {l1 : Int32} {st : List Value} {im : IM} {rm : RM}  : evL X 333 [v0, v1, v2, .int l1] st im rm = evL X 334 [v0, v1, v2, .int l1] (.int l1 :: st) (im) (rm) := evL_iload_n pm_m0 d0_333 rfl rfl
theorem d0_334 : decode code 334 = .ok (.iconst 3, 1) := by decide +kernel
theorem s0_334 {X : Nat × (Nat → Int32)} {v0 v1 v2 v3 : Value}  {st : List Value} {im : IM} {rm : RM}  : evL X 334 [v0, v1, v2, v3] st im rm = evL X 335 [v0, v1, v2, v3] (.int (nI 3) :: st) (im) (rm) := evL_iconst pm_m0 d0_334 rfl rfl
theorem d0_335 : decode code 335 = .ok (.iadd, 1) := by decide +kernel
theorem s0_335 {X : Nat × (Nat → Int32)} {v0 v1 v2 v3 : Value} {x : Int32} {y : Int32} {st : List Value} {im : IM} {rm : RM}  : evL X 335 [v0, v1, v2, v3] (.int y :: .int x :: st) im rm = evL X 336 [v0, v1, v2, v3] (.int (x + y) :: st) (im) (rm) := evL_iadd pm_m0 d0_335 rfl
theorem d0_336 : decode code 336 = .ok (.iaload, 1) := by decide +kernel
theorem s0_336 {X : Nat × (Nat → Int32)} {v0 v1 v2 v3 : Value} {i : Int32} {st : List Value} {im : IM} {rm : RM} (hk : kd 1000300 = 99) (hi : pm_in i X.1 = true) : evL X 336 [v0, v1, v2, v3] (.int i :: .ref 1000300 :: st) im rm = evL X 337 [v0, v1, v2, v3] (.int (X.2 i.toNatClampNeg) :: st) (im) (rm) := evL_sld pm_m0 rfl d0_336 hk hi rfl
theorem d0_337 : decode code 337 = .ok (.invokevirtual 26, 3) := by decide +kernel
theorem s0_337 {X : Nat × (Nat → Int32)} {v0 v1 v2 v3 : Value} {a : Nat} {p1 : Int32} {p2 : Int32} {p3 : Int32} {r4 : Int32} {im : IM} {rm : RM} (hk : kd a = 18) : evL X 337 [v0, v1, v2, v3] [.int p3, .int p2, .int p1, .ref a, .int r4] im rm = (ev 111 0 [.ref a, .int p1, .int p2, .int p3, pm_u] [] im rm).bind (fun r => evL X 340 [v0, v1, v2, v3] (r.1.toList ++ [.int r4]) r.2.1 r.2.2) := evL_callV pm_m0 d0_337 l9_26 rfl pm_m111 (by decide) hk rfl ⟨rfl, rfl⟩ rfl rfl
theorem d0_340 : decode code 340 = .ok (.if_icmp .eq 1009, 3) := by decide +kernel
theorem s0_340 {X : Nat × (Nat → Int32)} {v0 v1 v2 v3 : Value} {x : Int32} {y : Int32} {st : List Value} {im : IM} {rm : RM} : evL X 340 [v0, v1, v2, v3] (.int y :: .int x :: st) im rm = if x = y then evL X 1349 [v0, v1, v2, v3] st im rm else evL X 343 [v0, v1, v2, v3] st im rm := evL_icmp_eq pm_m0 d0_340 rfl rfl rfl
theorem d0_343 : decode code 343 = .ok (.iconst 0, 1) := by decide +kernel
theorem s0_343 {X : Nat × (Nat → Int32)} {v0 v1 v2 v3 : Value}  {st : List Value} {im : IM} {rm : RM}  : evL X 343 [v0, v1, v2, v3] st im rm = evL X 344 [v0, v1, v2, v3] (.int (nI 0) :: st) (im) (rm) := evL_iconst pm_m0 d0_343 rfl rfl
theorem d0_344 : decode code 344 = .ok (.ireturn, 1) := by decide +kernel
theorem s0_344 {X : Nat × (Nat → Int32)} {v0 v1 v2 v3 : Value} {x : Int32} {im : IM} {rm : RM} (hx : x = 0 ∨ x = 1) : evL X 344 [v0, v1, v2, v3] [.int x] im rm = some (some (.int x), im, rm) := evL_zreturn pm_m0 d0_344 rfl hx (by decide)
theorem d0_345 : decode code 345 = .ok (.aload_n 1, 1) := by decide +kernel
theorem s0_345 {X : Nat × (Nat → Int32)} {v0 v2 v3 : Value} {l1 : Nat} {st : List Value} {im : IM} {rm : RM}  : evL X 345 [v0, .ref l1, v2, v3] st im rm = evL X 346 [v0, .ref l1, v2, v3] (.ref l1 :: st) (im) (rm) := evL_aload_n pm_m0 d0_345 rfl rfl
theorem d0_346 : decode code 346 = .ok (.aload_n 0, 1) := by decide +kernel
theorem s0_346 {X : Nat × (Nat → Int32)} {v1 v2 v3 : Value} {l1 : Nat} {st : List Value} {im : IM} {rm : RM}  : evL X 346 [.ref l1, v1, v2, v3] st im rm = evL X 347 [.ref l1, v1, v2, v3] (.ref l1 :: st) (im) (rm) := evL_aload_n pm_m0 d0_346 rfl rfl
theorem d0_347 : decode code 347 = .ok (.iload_n 3, 1) := by decide +kernel
theorem s0_347 {X : Nat × (Nat → Int32)} {v0 v1 v2 : Value} {l1 : Int32} {st : List Value} {im : IM} {rm : RM}  : evL X 347 [v0, v1, v2, .int l1] st im rm = evL X 348 [v0, v1, v2, .int l1] (.int l1 :: st) (im) (rm) := evL_iload_n pm_m0 d0_347 rfl rfl
theorem d0_348 : decode code 348 = .ok (.iconst 1, 1) := by decide +kernel
theorem s0_348 {X : Nat × (Nat → Int32)} {v0 v1 v2 v3 : Value}  {st : List Value} {im : IM} {rm : RM}  : evL X 348 [v0, v1, v2, v3] st im rm = evL X 349 [v0, v1, v2, v3] (.int (nI 1) :: st) (im) (rm) := evL_iconst pm_m0 d0_348 rfl rfl
theorem d0_349 : decode code 349 = .ok (.iadd, 1) := by decide +kernel
theorem s0_349 {X : Nat × (Nat → Int32)} {v0 v1 v2 v3 : Value} {x : Int32} {y : Int32} {st : List Value} {im : IM} {rm : RM}  : evL X 349 [v0, v1, v2, v3] (.int y :: .int x :: st) im rm = evL X 350 [v0, v1, v2, v3] (.int (x + y) :: st) (im) (rm) := evL_iadd pm_m0 d0_349 rfl
theorem d0_350 : decode code 350 = .ok (.iaload, 1) := by decide +kernel
theorem s0_350 {X : Nat × (Nat → Int32)} {v0 v1 v2 v3 : Value} {i : Int32} {st : List Value} {im : IM} {rm : RM} (hk : kd 1000300 = 99) (hi : pm_in i X.1 = true) : evL X 350 [v0, v1, v2, v3] (.int i :: .ref 1000300 :: st) im rm = evL X 351 [v0, v1, v2, v3] (.int (X.2 i.toNatClampNeg) :: st) (im) (rm) := evL_sld pm_m0 rfl d0_350 hk hi rfl
theorem d0_351 : decode code 351 = .ok (.aload_n 0, 1) := by decide +kernel
theorem s0_351 {X : Nat × (Nat → Int32)} {v1 v2 v3 : Value} {l1 : Nat} {st : List Value} {im : IM} {rm : RM}  : evL X 351 [.ref l1, v1, v2, v3] st im rm = evL X 352 [.ref l1, v1, v2, v3] (.ref l1 :: st) (im) (rm) := evL_aload_n pm_m0 d0_351 rfl rfl
theorem d0_352 : decode code 352 = .ok (.iload_n 3, 1) := by decide +kernel
theorem s0_352 {X : Nat × (Nat → Int32)} {v0 v1 v2 : Value} {l1 : Int32} {st : List Value} {im : IM} {rm : RM}  : evL X 352 [v0, v1, v2, .int l1] st im rm = evL X 353 [v0, v1, v2, .int l1] (.int l1 :: st) (im) (rm) := evL_iload_n pm_m0 d0_352 rfl rfl
theorem d0_353 : decode code 353 = .ok (.iconst 2, 1) := by decide +kernel
theorem s0_353 {X : Nat × (Nat → Int32)} {v0 v1 v2 v3 : Value}  {st : List Value} {im : IM} {rm : RM}  : evL X 353 [v0, v1, v2, v3] st im rm = evL X 354 [v0, v1, v2, v3] (.int (nI 2) :: st) (im) (rm) := evL_iconst pm_m0 d0_353 rfl rfl
theorem d0_354 : decode code 354 = .ok (.iadd, 1) := by decide +kernel
theorem s0_354 {X : Nat × (Nat → Int32)} {v0 v1 v2 v3 : Value} {x : Int32} {y : Int32} {st : List Value} {im : IM} {rm : RM}  : evL X 354 [v0, v1, v2, v3] (.int y :: .int x :: st) im rm = evL X 355 [v0, v1, v2, v3] (.int (x + y) :: st) (im) (rm) := evL_iadd pm_m0 d0_354 rfl
theorem d0_355 : decode code 355 = .ok (.iaload, 1) := by decide +kernel
theorem s0_355 {X : Nat × (Nat → Int32)} {v0 v1 v2 v3 : Value} {i : Int32} {st : List Value} {im : IM} {rm : RM} (hk : kd 1000300 = 99) (hi : pm_in i X.1 = true) : evL X 355 [v0, v1, v2, v3] (.int i :: .ref 1000300 :: st) im rm = evL X 356 [v0, v1, v2, v3] (.int (X.2 i.toNatClampNeg) :: st) (im) (rm) := evL_sld pm_m0 rfl d0_355 hk hi rfl
theorem d0_356 : decode code 356 = .ok (.invokevirtual 27, 3) := by decide +kernel
theorem s0_356 {X : Nat × (Nat → Int32)} {v0 v1 v2 v3 : Value} {a : Nat} {p1 : Int32} {p2 : Int32} {im : IM} {rm : RM} (hk : kd a = 17) : evL X 356 [v0, v1, v2, v3] [.int p2, .int p1, .ref a] im rm = (ev 44 0 [.ref a, .int p1, .int p2, pm_u, pm_u] [] im rm).bind (fun r => evL X 359 [v0, v1, v2, v3] (r.1.toList ++ []) r.2.1 r.2.2) := evL_callV pm_m0 d0_356 l9_27 rfl pm_m44 (by decide) hk rfl ⟨rfl, rfl⟩ rfl rfl
theorem d0_359 : decode code 359 = .ok (.aload_n 2, 1) := by decide +kernel
theorem s0_359 {X : Nat × (Nat → Int32)} {v0 v1 v3 : Value} {l1 : Nat} {st : List Value} {im : IM} {rm : RM}  : evL X 359 [v0, v1, .ref l1, v3] st im rm = evL X 360 [v0, v1, .ref l1, v3] (.ref l1 :: st) (im) (rm) := evL_aload_n pm_m0 d0_359 rfl rfl
theorem d0_360 : decode code 360 = .ok (.aload_n 0, 1) := by decide +kernel
theorem s0_360 {X : Nat × (Nat → Int32)} {v1 v2 v3 : Value} {l1 : Nat} {st : List Value} {im : IM} {rm : RM}  : evL X 360 [.ref l1, v1, v2, v3] st im rm = evL X 361 [.ref l1, v1, v2, v3] (.ref l1 :: st) (im) (rm) := evL_aload_n pm_m0 d0_360 rfl rfl
theorem d0_361 : decode code 361 = .ok (.iload_n 3, 1) := by decide +kernel
theorem s0_361 {X : Nat × (Nat → Int32)} {v0 v1 v2 : Value} {l1 : Int32} {st : List Value} {im : IM} {rm : RM}  : evL X 361 [v0, v1, v2, .int l1] st im rm = evL X 362 [v0, v1, v2, .int l1] (.int l1 :: st) (im) (rm) := evL_iload_n pm_m0 d0_361 rfl rfl
theorem d0_362 : decode code 362 = .ok (.iconst 1, 1) := by decide +kernel
theorem s0_362 {X : Nat × (Nat → Int32)} {v0 v1 v2 v3 : Value}  {st : List Value} {im : IM} {rm : RM}  : evL X 362 [v0, v1, v2, v3] st im rm = evL X 363 [v0, v1, v2, v3] (.int (nI 1) :: st) (im) (rm) := evL_iconst pm_m0 d0_362 rfl rfl
theorem d0_363 : decode code 363 = .ok (.iadd, 1) := by decide +kernel
theorem s0_363 {X : Nat × (Nat → Int32)} {v0 v1 v2 v3 : Value} {x : Int32} {y : Int32} {st : List Value} {im : IM} {rm : RM}  : evL X 363 [v0, v1, v2, v3] (.int y :: .int x :: st) im rm = evL X 364 [v0, v1, v2, v3] (.int (x + y) :: st) (im) (rm) := evL_iadd pm_m0 d0_363 rfl
theorem d0_364 : decode code 364 = .ok (.iaload, 1) := by decide +kernel
theorem s0_364 {X : Nat × (Nat → Int32)} {v0 v1 v2 v3 : Value} {i : Int32} {st : List Value} {im : IM} {rm : RM} (hk : kd 1000300 = 99) (hi : pm_in i X.1 = true) : evL X 364 [v0, v1, v2, v3] (.int i :: .ref 1000300 :: st) im rm = evL X 365 [v0, v1, v2, v3] (.int (X.2 i.toNatClampNeg) :: st) (im) (rm) := evL_sld pm_m0 rfl d0_364 hk hi rfl
theorem d0_365 : decode code 365 = .ok (.aload_n 0, 1) := by decide +kernel
theorem s0_365 {X : Nat × (Nat → Int32)} {v1 v2 v3 : Value} {l1 : Nat} {st : List Value} {im : IM} {rm : RM}  : evL X 365 [.ref l1, v1, v2, v3] st im rm = evL X 366 [.ref l1, v1, v2, v3] (.ref l1 :: st) (im) (rm) := evL_aload_n pm_m0 d0_365 rfl rfl
theorem d0_366 : decode code 366 = .ok (.iload_n 3, 1) := by decide +kernel
theorem s0_366 {X : Nat × (Nat → Int32)} {v0 v1 v2 : Value} {l1 : Int32} {st : List Value} {im : IM} {rm : RM}  : evL X 366 [v0, v1, v2, .int l1] st im rm = evL X 367 [v0, v1, v2, .int l1] (.int l1 :: st) (im) (rm) := evL_iload_n pm_m0 d0_366 rfl rfl
theorem d0_367 : decode code 367 = .ok (.iconst 2, 1) := by decide +kernel
theorem s0_367 {X : Nat × (Nat → Int32)} {v0 v1 v2 v3 : Value}  {st : List Value} {im : IM} {rm : RM}  : evL X 367 [v0, v1, v2, v3] st im rm = evL X 368 [v0, v1, v2, v3] (.int (nI 2) :: st) (im) (rm) := evL_iconst pm_m0 d0_367 rfl rfl
theorem d0_368 : decode code 368 = .ok (.iadd, 1) := by decide +kernel
theorem s0_368 {X : Nat × (Nat → Int32)} {v0 v1 v2 v3 : Value} {x : Int32} {y : Int32} {st : List Value} {im : IM} {rm : RM}  : evL X 368 [v0, v1, v2, v3] (.int y :: .int x :: st) im rm = evL X 369 [v0, v1, v2, v3] (.int (x + y) :: st) (im) (rm) := evL_iadd pm_m0 d0_368 rfl
theorem d0_369 : decode code 369 = .ok (.iaload, 1) := by decide +kernel
theorem s0_369 {X : Nat × (Nat → Int32)} {v0 v1 v2 v3 : Value} {i : Int32} {st : List Value} {im : IM} {rm : RM} (hk : kd 1000300 = 99) (hi : pm_in i X.1 = true) : evL X 369 [v0, v1, v2, v3] (.int i :: .ref 1000300 :: st) im rm = evL X 370 [v0, v1, v2, v3] (.int (X.2 i.toNatClampNeg) :: st) (im) (rm) := evL_sld pm_m0 rfl d0_369 hk hi rfl
theorem d0_370 : decode code 370 = .ok (.invokevirtual 31, 3) := by decide +kernel
theorem s0_370 {X : Nat × (Nat → Int32)} {v0 v1 v2 v3 : Value} {a : Nat} {p1 : Int32} {p2 : Int32} {r3 : Int32} {im : IM} {rm : RM} (hk : kd a = 18) : evL X 370 [v0, v1, v2, v3] [.int p2, .int p1, .ref a, .int r3] im rm = (ev 112 0 [.ref a, .int p1, .int p2, pm_u] [] im rm).bind (fun r => evL X 373 [v0, v1, v2, v3] (r.1.toList ++ [.int r3]) r.2.1 r.2.2) := evL_callV pm_m0 d0_370 l9_31 rfl pm_m112 (by decide) hk rfl ⟨rfl, rfl⟩ rfl rfl
theorem d0_373 : decode code 373 = .ok (.if_icmp .eq 976, 3) := by decide +kernel
theorem s0_373 {X : Nat × (Nat → Int32)} {v0 v1 v2 v3 : Value} {x : Int32} {y : Int32} {st : List Value} {im : IM} {rm : RM} : evL X 373 [v0, v1, v2, v3] (.int y :: .int x :: st) im rm = if x = y then evL X 1349 [v0, v1, v2, v3] st im rm else evL X 376 [v0, v1, v2, v3] st im rm := evL_icmp_eq pm_m0 d0_373 rfl rfl rfl
theorem d0_376 : decode code 376 = .ok (.iconst 0, 1) := by decide +kernel
theorem s0_376 {X : Nat × (Nat → Int32)} {v0 v1 v2 v3 : Value}  {st : List Value} {im : IM} {rm : RM}  : evL X 376 [v0, v1, v2, v3] st im rm = evL X 377 [v0, v1, v2, v3] (.int (nI 0) :: st) (im) (rm) := evL_iconst pm_m0 d0_376 rfl rfl
theorem d0_377 : decode code 377 = .ok (.ireturn, 1) := by decide +kernel
theorem s0_377 {X : Nat × (Nat → Int32)} {v0 v1 v2 v3 : Value} {x : Int32} {im : IM} {rm : RM} (hx : x = 0 ∨ x = 1) : evL X 377 [v0, v1, v2, v3] [.int x] im rm = some (some (.int x), im, rm) := evL_zreturn pm_m0 d0_377 rfl hx (by decide)
theorem d0_378 : decode code 378 = .ok (.aload_n 1, 1) := by decide +kernel
theorem s0_378 {X : Nat × (Nat → Int32)} {v0 v2 v3 : Value} {l1 : Nat} {st : List Value} {im : IM} {rm : RM}  : evL X 378 [v0, .ref l1, v2, v3] st im rm = evL X 379 [v0, .ref l1, v2, v3] (.ref l1 :: st) (im) (rm) := evL_aload_n pm_m0 d0_378 rfl rfl
theorem d0_379 : decode code 379 = .ok (.aload_n 0, 1) := by decide +kernel
theorem s0_379 {X : Nat × (Nat → Int32)} {v1 v2 v3 : Value} {l1 : Nat} {st : List Value} {im : IM} {rm : RM}  : evL X 379 [.ref l1, v1, v2, v3] st im rm = evL X 380 [.ref l1, v1, v2, v3] (.ref l1 :: st) (im) (rm) := evL_aload_n pm_m0 d0_379 rfl rfl
theorem d0_380 : decode code 380 = .ok (.iload_n 3, 1) := by decide +kernel
theorem s0_380 {X : Nat × (Nat → Int32)} {v0 v1 v2 : Value} {l1 : Int32} {st : List Value} {im : IM} {rm : RM}  : evL X 380 [v0, v1, v2, .int l1] st im rm = evL X 381 [v0, v1, v2, .int l1] (.int l1 :: st) (im) (rm) := evL_iload_n pm_m0 d0_380 rfl rfl
theorem d0_381 : decode code 381 = .ok (.iconst 1, 1) := by decide +kernel
theorem s0_381 {X : Nat × (Nat → Int32)} {v0 v1 v2 v3 : Value}  {st : List Value} {im : IM} {rm : RM}  : evL X 381 [v0, v1, v2, v3] st im rm = evL X 382 [v0, v1, v2, v3] (.int (nI 1) :: st) (im) (rm) := evL_iconst pm_m0 d0_381 rfl rfl
theorem d0_382 : decode code 382 = .ok (.iadd, 1) := by decide +kernel
theorem s0_382 {X : Nat × (Nat → Int32)} {v0 v1 v2 v3 : Value} {x : Int32} {y : Int32} {st : List Value} {im : IM} {rm : RM}  : evL X 382 [v0, v1, v2, v3] (.int y :: .int x :: st) im rm = evL X 383 [v0, v1, v2, v3] (.int (x + y) :: st) (im) (rm) := evL_iadd pm_m0 d0_382 rfl
theorem d0_383 : decode code 383 = .ok (.iaload, 1) := by decide +kernel
theorem s0_383 {X : Nat × (Nat → Int32)} {v0 v1 v2 v3 : Value} {i : Int32} {st : List Value} {im : IM} {rm : RM} (hk : kd 1000300 = 99) (hi : pm_in i X.1 = true) : evL X 383 [v0, v1, v2, v3] (.int i :: .ref 1000300 :: st) im rm = evL X 384 [v0, v1, v2, v3] (.int (X.2 i.toNatClampNeg) :: st) (im) (rm) := evL_sld pm_m0 rfl d0_383 hk hi rfl
theorem d0_384 : decode code 384 = .ok (.aload_n 0, 1) := by decide +kernel
theorem s0_384 {X : Nat × (Nat → Int32)} {v1 v2 v3 : Value} {l1 : Nat} {st : List Value} {im : IM} {rm : RM}  : evL X 384 [.ref l1, v1, v2, v3] st im rm = evL X 385 [.ref l1, v1, v2, v3] (.ref l1 :: st) (im) (rm) := evL_aload_n pm_m0 d0_384 rfl rfl
theorem d0_385 : decode code 385 = .ok (.iload_n 3, 1) := by decide +kernel
theorem s0_385 {X : Nat × (Nat → Int32)} {v0 v1 v2 : Value} {l1 : Int32} {st : List Value} {im : IM} {rm : RM}  : evL X 385 [v0, v1, v2, .int l1] st im rm = evL X 386 [v0, v1, v2, .int l1] (.int l1 :: st) (im) (rm) := evL_iload_n pm_m0 d0_385 rfl rfl
theorem d0_386 : decode code 386 = .ok (.iconst 2, 1) := by decide +kernel
theorem s0_386 {X : Nat × (Nat → Int32)} {v0 v1 v2 v3 : Value}  {st : List Value} {im : IM} {rm : RM}  : evL X 386 [v0, v1, v2, v3] st im rm = evL X 387 [v0, v1, v2, v3] (.int (nI 2) :: st) (im) (rm) := evL_iconst pm_m0 d0_386 rfl rfl
theorem d0_387 : decode code 387 = .ok (.iadd, 1) := by decide +kernel
theorem s0_387 {X : Nat × (Nat → Int32)} {v0 v1 v2 v3 : Value} {x : Int32} {y : Int32} {st : List Value} {im : IM} {rm : RM}  : evL X 387 [v0, v1, v2, v3] (.int y :: .int x :: st) im rm = evL X 388 [v0, v1, v2, v3] (.int (x + y) :: st) (im) (rm) := evL_iadd pm_m0 d0_387 rfl
theorem d0_388 : decode code 388 = .ok (.iaload, 1) := by decide +kernel
theorem s0_388 {X : Nat × (Nat → Int32)} {v0 v1 v2 v3 : Value} {i : Int32} {st : List Value} {im : IM} {rm : RM} (hk : kd 1000300 = 99) (hi : pm_in i X.1 = true) : evL X 388 [v0, v1, v2, v3] (.int i :: .ref 1000300 :: st) im rm = evL X 389 [v0, v1, v2, v3] (.int (X.2 i.toNatClampNeg) :: st) (im) (rm) := evL_sld pm_m0 rfl d0_388 hk hi rfl
theorem d0_389 : decode code 389 = .ok (.aload_n 0, 1) := by decide +kernel
theorem s0_389 {X : Nat × (Nat → Int32)} {v1 v2 v3 : Value} {l1 : Nat} {st : List Value} {im : IM} {rm : RM}  : evL X 389 [.ref l1, v1, v2, v3] st im rm = evL X 390 [.ref l1, v1, v2, v3] (.ref l1 :: st) (im) (rm) := evL_aload_n pm_m0 d0_389 rfl rfl
theorem d0_390 : decode code 390 = .ok (.iload_n 3, 1) := by decide +kernel
theorem s0_390 {X : Nat × (Nat → Int32)} {v0 v1 v2 : Value} {l1 : Int32} {st : List Value} {im : IM} {rm : RM}  : evL X 390 [v0, v1, v2, .int l1] st im rm = evL X 391 [v0, v1, v2, .int l1] (.int l1 :: st) (im) (rm) := evL_iload_n pm_m0 d0_390 rfl rfl
theorem d0_391 : decode code 391 = .ok (.iconst 3, 1) := by decide +kernel
theorem s0_391 {X : Nat × (Nat → Int32)} {v0 v1 v2 v3 : Value}  {st : List Value} {im : IM} {rm : RM}  : evL X 391 [v0, v1, v2, v3] st im rm = evL X 392 [v0, v1, v2, v3] (.int (nI 3) :: st) (im) (rm) := evL_iconst pm_m0 d0_391 rfl rfl
theorem d0_392 : decode code 392 = .ok (.iadd, 1) := by decide +kernel
theorem s0_392 {X : Nat × (Nat → Int32)} {v0 v1 v2 v3 : Value} {x : Int32} {y : Int32} {st : List Value} {im : IM} {rm : RM}  : evL X 392 [v0, v1, v2, v3] (.int y :: .int x :: st) im rm = evL X 393 [v0, v1, v2, v3] (.int (x + y) :: st) (im) (rm) := evL_iadd pm_m0 d0_392 rfl
theorem d0_393 : decode code 393 = .ok (.iaload, 1) := by decide +kernel
theorem s0_393 {X : Nat × (Nat → Int32)} {v0 v1 v2 v3 : Value} {i : Int32} {st : List Value} {im : IM} {rm : RM} (hk : kd 1000300 = 99) (hi : pm_in i X.1 = true) : evL X 393 [v0, v1, v2, v3] (.int i :: .ref 1000300 :: st) im rm = evL X 394 [v0, v1, v2, v3] (.int (X.2 i.toNatClampNeg) :: st) (im) (rm) := evL_sld pm_m0 rfl d0_393 hk hi rfl
theorem d0_394 : decode code 394 = .ok (.invokevirtual 32, 3) := by decide +kernel
theorem s0_394 {X : Nat × (Nat → Int32)} {v0 v1 v2 v3 : Value} {a : Nat} {p1 : Int32} {p2 : Int32} {p3 : Int32} {im : IM} {rm : RM} (hk : kd a = 17) : evL X 394 [v0, v1, v2, v3] [.int p3, .int p2, .int p1, .ref a] im rm = (ev 45 0 [.ref a, .int p1, .int p2, .int p3] [] im rm).bind (fun r => evL X 397 [v0, v1, v2, v3] (r.1.toList ++ []) r.2.1 r.2.2) := evL_callV pm_m0 d0_394 l9_32 rfl pm_m45 (by decide) hk rfl ⟨rfl, rfl⟩ rfl rfl
theorem d0_397 : decode code 397 = .ok (.aload_n 2, 1) := by decide +kernel
theorem s0_397 {X : Nat × (Nat → Int32)} {v0 v1 v3 : Value} {l1 : Nat} {st : List Value} {im : IM} {rm : RM}  : evL X 397 [v0, v1, .ref l1, v3] st im rm = evL X 398 [v0, v1, .ref l1, v3] (.ref l1 :: st) (im) (rm) := evL_aload_n pm_m0 d0_397 rfl rfl
theorem d0_398 : decode code 398 = .ok (.aload_n 0, 1) := by decide +kernel
theorem s0_398 {X : Nat × (Nat → Int32)} {v1 v2 v3 : Value} {l1 : Nat} {st : List Value} {im : IM} {rm : RM}  : evL X 398 [.ref l1, v1, v2, v3] st im rm = evL X 399 [.ref l1, v1, v2, v3] (.ref l1 :: st) (im) (rm) := evL_aload_n pm_m0 d0_398 rfl rfl
theorem d0_399 : decode code 399 = .ok (.iload_n 3, 1) := by decide +kernel
theorem s0_399 {X : Nat × (Nat → Int32)} {v0 v1 v2 : Value} {l1 : Int32} {st : List Value} {im : IM} {rm : RM}  : evL X 399 [v0, v1, v2, .int l1] st im rm = evL X 400 [v0, v1, v2, .int l1] (.int l1 :: st) (im) (rm) := evL_iload_n pm_m0 d0_399 rfl rfl
theorem d0_400 : decode code 400 = .ok (.iconst 1, 1) := by decide +kernel
theorem s0_400 {X : Nat × (Nat → Int32)} {v0 v1 v2 v3 : Value}  {st : List Value} {im : IM} {rm : RM}  : evL X 400 [v0, v1, v2, v3] st im rm = evL X 401 [v0, v1, v2, v3] (.int (nI 1) :: st) (im) (rm) := evL_iconst pm_m0 d0_400 rfl rfl
theorem d0_401 : decode code 401 = .ok (.iadd, 1) := by decide +kernel
theorem s0_401 {X : Nat × (Nat → Int32)} {v0 v1 v2 v3 : Value} {x : Int32} {y : Int32} {st : List Value} {im : IM} {rm : RM}  : evL X 401 [v0, v1, v2, v3] (.int y :: .int x :: st) im rm = evL X 402 [v0, v1, v2, v3] (.int (x + y) :: st) (im) (rm) := evL_iadd pm_m0 d0_401 rfl
theorem d0_402 : decode code 402 = .ok (.iaload, 1) := by decide +kernel
theorem s0_402 {X : Nat × (Nat → Int32)} {v0 v1 v2 v3 : Value} {i : Int32} {st : List Value} {im : IM} {rm : RM} (hk : kd 1000300 = 99) (hi : pm_in i X.1 = true) : evL X 402 [v0, v1, v2, v3] (.int i :: .ref 1000300 :: st) im rm = evL X 403 [v0, v1, v2, v3] (.int (X.2 i.toNatClampNeg) :: st) (im) (rm) := evL_sld pm_m0 rfl d0_402 hk hi rfl
theorem d0_403 : decode code 403 = .ok (.aload_n 0, 1) := by decide +kernel
theorem s0_403 {X : Nat × (Nat → Int32)} {v1 v2 v3 : Value} {l1 : Nat} {st : List Value} {im : IM} {rm : RM}  : evL X 403 [.ref l1, v1, v2, v3] st im rm = evL X 404 [.ref l1, v1, v2, v3] (.ref l1 :: st) (im) (rm) := evL_aload_n pm_m0 d0_403 rfl rfl
theorem d0_404 : decode code 404 = .ok (.iload_n 3, 1) := by decide +kernel
theorem s0_404 {X : Nat × (Nat → Int32)} {v0 v1 v2 : Value} {l1 : Int32} {st : List Value} {im : IM} {rm : RM}  : evL X 404 [v0, v1, v2, .int l1] st im rm = evL X 405 [v0, v1, v2, .int l1] (.int l1 :: st) (im) (rm) := evL_iload_n pm_m0 d0_404 rfl rfl
theorem d0_405 : decode code 405 = .ok (.iconst 2, 1) := by decide +kernel
theorem s0_405 {X : Nat × (Nat → Int32)} {v0 v1 v2 v3 : Value}  {st : List Value} {im : IM} {rm : RM}  : evL X 405 [v0, v1, v2, v3] st im rm = evL X 406 [v0, v1, v2, v3] (.int (nI 2) :: st) (im) (rm) := evL_iconst pm_m0 d0_405 rfl rfl
theorem d0_406 : decode code 406 = .ok (.iadd, 1) := by decide +kernel
theorem s0_406 {X : Nat × (Nat → Int32)} {v0 v1 v2 v3 : Value} {x : Int32} {y : Int32} {st : List Value} {im : IM} {rm : RM}  : evL X 406 [v0, v1, v2, v3] (.int y :: .int x :: st) im rm = evL X 407 [v0, v1, v2, v3] (.int (x + y) :: st) (im) (rm) := evL_iadd pm_m0 d0_406 rfl
theorem d0_407 : decode code 407 = .ok (.iaload, 1) := by decide +kernel
theorem s0_407 {X : Nat × (Nat → Int32)} {v0 v1 v2 v3 : Value} {i : Int32} {st : List Value} {im : IM} {rm : RM} (hk : kd 1000300 = 99) (hi : pm_in i X.1 = true) : evL X 407 [v0, v1, v2, v3] (.int i :: .ref 1000300 :: st) im rm = evL X 408 [v0, v1, v2, v3] (.int (X.2 i.toNatClampNeg) :: st) (im) (rm) := evL_sld pm_m0 rfl d0_407 hk hi rfl
theorem d0_408 : decode code 408 = .ok (.aload_n 0, 1) := by decide +kernel
theorem s0_408 {X : Nat × (Nat → Int32)} {v1 v2 v3 : Value} {l1 : Nat} {st : List Value} {im : IM} {rm : RM}  : evL X 408 [.ref l1, v1, v2, v3] st im rm = evL X 409 [.ref l1, v1, v2, v3] (.ref l1 :: st) (im) (rm) := evL_aload_n pm_m0 d0_408 rfl rfl
theorem d0_409 : decode code 409 = .ok (.iload_n 3, 1) := by decide +kernel
theorem s0_409 {X : Nat × (Nat → Int32)} {v0 v1 v2 : Value} {l1 : Int32} {st : List Value} {im : IM} {rm : RM}  : evL X 409 [v0, v1, v2, .int l1] st im rm = evL X 410 [v0, v1, v2, .int l1] (.int l1 :: st) (im) (rm) := evL_iload_n pm_m0 d0_409 rfl rfl
theorem d0_410 : decode code 410 = .ok (.iconst 3, 1) := by decide +kernel
theorem s0_410 {X : Nat × (Nat → Int32)} {v0 v1 v2 v3 : Value}  {st : List Value} {im : IM} {rm : RM}  : evL X 410 [v0, v1, v2, v3] st im rm = evL X 411 [v0, v1, v2, v3] (.int (nI 3) :: st) (im) (rm) := evL_iconst pm_m0 d0_410 rfl rfl
theorem d0_411 : decode code 411 = .ok (.iadd, 1) := by decide +kernel
theorem s0_411 {X : Nat × (Nat → Int32)} {v0 v1 v2 v3 : Value} {x : Int32} {y : Int32} {st : List Value} {im : IM} {rm : RM}  : evL X 411 [v0, v1, v2, v3] (.int y :: .int x :: st) im rm = evL X 412 [v0, v1, v2, v3] (.int (x + y) :: st) (im) (rm) := evL_iadd pm_m0 d0_411 rfl
theorem d0_412 : decode code 412 = .ok (.iaload, 1) := by decide +kernel
theorem s0_412 {X : Nat × (Nat → Int32)} {v0 v1 v2 v3 : Value} {i : Int32} {st : List Value} {im : IM} {rm : RM} (hk : kd 1000300 = 99) (hi : pm_in i X.1 = true) : evL X 412 [v0, v1, v2, v3] (.int i :: .ref 1000300 :: st) im rm = evL X 413 [v0, v1, v2, v3] (.int (X.2 i.toNatClampNeg) :: st) (im) (rm) := evL_sld pm_m0 rfl d0_412 hk hi rfl
theorem d0_413 : decode code 413 = .ok (.invokevirtual 35, 3) := by decide +kernel
theorem s0_413 {X : Nat × (Nat → Int32)} {v0 v1 v2 v3 : Value} {a : Nat} {p1 : Int32} {p2 : Int32} {p3 : Int32} {r4 : Int32} {im : IM} {rm : RM} (hk : kd a = 18) : evL X 413 [v0, v1, v2, v3] [.int p3, .int p2, .int p1, .ref a, .int r4] im rm = (ev 116 0 [.ref a, .int p1, .int p2, .int p3] [] im rm).bind (fun r => evL X 416 [v0, v1, v2, v3] (r.1.toList ++ [.int r4]) r.2.1 r.2.2) := evL_callV pm_m0 d0_413 l9_35 rfl pm_m116 (by decide) hk rfl ⟨rfl, rfl⟩ rfl rfl
theorem d0_416 : decode code 416 = .ok (.if_icmp .eq 933, 3) := by decide +kernel
theorem s0_416 {X : Nat × (Nat → Int32)} {v0 v1 v2 v3 : Value} {x : Int32} {y : Int32} {st : List Value} {im : IM} {rm : RM} : evL X 416 [v0, v1, v2, v3] (.int y :: .int x :: st) im rm = if x = y then evL X 1349 [v0, v1, v2, v3] st im rm else evL X 419 [v0, v1, v2, v3] st im rm := evL_icmp_eq pm_m0 d0_416 rfl rfl rfl
theorem d0_419 : decode code 419 = .ok (.iconst 0, 1) := by decide +kernel
theorem s0_419 {X : Nat × (Nat → Int32)} {v0 v1 v2 v3 : Value}  {st : List Value} {im : IM} {rm : RM}  : evL X 419 [v0, v1, v2, v3] st im rm = evL X 420 [v0, v1, v2, v3] (.int (nI 0) :: st) (im) (rm) := evL_iconst pm_m0 d0_419 rfl rfl
theorem d0_420 : decode code 420 = .ok (.ireturn, 1) := by decide +kernel
theorem s0_420 {X : Nat × (Nat → Int32)} {v0 v1 v2 v3 : Value} {x : Int32} {im : IM} {rm : RM} (hx : x = 0 ∨ x = 1) : evL X 420 [v0, v1, v2, v3] [.int x] im rm = some (some (.int x), im, rm) := evL_zreturn pm_m0 d0_420 rfl hx (by decide)
theorem d0_421 : decode code 421 = .ok (.aload_n 1, 1) := by decide +kernel
theorem s0_421 {X : Nat × (Nat → Int32)} {v0 v2 v3 : Value} {l1 : Nat} {st : List Value} {im : IM} {rm : RM}  : evL X 421 [v0, .ref l1, v2, v3] st im rm = evL X 422 [v0, .ref l1, v2, v3] (.ref l1 :: st) (im) (rm) := evL_aload_n pm_m0 d0_421 rfl rfl
theorem d0_422 : decode code 422 = .ok (.aload_n 0, 1) := by decide +kernel
theorem s0_422 {X : Nat × (Nat → Int32)} {v1 v2 v3 : Value} {l1 : Nat} {st : List Value} {im : IM} {rm : RM}  : evL X 422 [.ref l1, v1, v2, v3] st im rm = evL X 423 [.ref l1, v1, v2, v3] (.ref l1 :: st) (im) (rm) := evL_aload_n pm_m0 d0_422 rfl rfl
theorem d0_423 : decode code 423 = .ok (.iload_n 3, 1) := by decide +kernel
theorem s0_423 {X : Nat × (Nat → Int32)} {v0 v1 v2 : Value} {l1 : Int32} {st : List Value} {im : IM} {rm : RM}  : evL X 423 [v0, v1, v2, .int l1] st im rm = evL X 424 [v0, v1, v2, .int l1] (.int l1 :: st) (im) (rm) := evL_iload_n pm_m0 d0_423 rfl rfl
theorem d0_424 : decode code 424 = .ok (.iconst 1, 1) := by decide +kernel
theorem s0_424 {X : Nat × (Nat → Int32)} {v0 v1 v2 v3 : Value}  {st : List Value} {im : IM} {rm : RM}  : evL X 424 [v0, v1, v2, v3] st im rm = evL X 425 [v0, v1, v2, v3] (.int (nI 1) :: st) (im) (rm) := evL_iconst pm_m0 d0_424 rfl rfl
theorem d0_425 : decode code 425 = .ok (.iadd, 1) := by decide +kernel
theorem s0_425 {X : Nat × (Nat → Int32)} {v0 v1 v2 v3 : Value} {x : Int32} {y : Int32} {st : List Value} {im : IM} {rm : RM}  : evL X 425 [v0, v1, v2, v3] (.int y :: .int x :: st) im rm = evL X 426 [v0, v1, v2, v3] (.int (x + y) :: st) (im) (rm) := evL_iadd pm_m0 d0_425 rfl
theorem d0_426 : decode code 426 = .ok (.iaload, 1) := by decide +kernel
theorem s0_426 {X : Nat × (Nat → Int32)} {v0 v1 v2 v3 : Value} {i : Int32} {st : List Value} {im : IM} {rm : RM} (hk : kd 1000300 = 99) (hi : pm_in i X.1 = true) : evL X 426 [v0, v1, v2, v3] (.int i :: .ref 1000300 :: st) im rm = evL X 427 [v0, v1, v2, v3] (.int (X.2 i.toNatClampNeg) :: st) (im) (rm) := evL_sld pm_m0 rfl d0_426 hk hi rfl
theorem d0_427 : decode code 427 = .ok (.i2l, 1) := by decide +kernel
theorem s0_427 {X : Nat × (Nat → Int32)} {v0 v1 v2 v3 : Value} {x : Int32} {st : List Value} {im : IM} {rm : RM}  : evL X 427 [v0, v1, v2, v3] (.int x :: st) im rm = evL X 428 [v0, v1, v2, v3] (.long x.toInt64 :: st) (im) (rm) := evL_i2l pm_m0 d0_427 rfl
theorem d0_428 : decode code 428 = .ok (.bipush 32, 2) := by decide +kernel
theorem s0_428 {X : Nat × (Nat → Int32)} {v0 v1 v2 v3 : Value}  {st : List Value} {im : IM} {rm : RM}  : evL X 428 [v0, v1, v2, v3] st im rm = evL X 430 [v0, v1, v2, v3] (.int (nI 32) :: st) (im) (rm) := evL_bipush pm_m0 d0_428 rfl rfl
theorem d0_430 : decode code 430 = .ok (.lshl, 1) := by decide +kernel
theorem s0_430 {X : Nat × (Nat → Int32)} {v0 v1 v2 v3 : Value} {x : Int64} {y : Int32} {st : List Value} {im : IM} {rm : RM}  : evL X 430 [v0, v1, v2, v3] (.int y :: .long x :: st) im rm = evL X 431 [v0, v1, v2, v3] (.long (x <<< (y.toInt64 &&& 63)) :: st) (im) (rm) := evL_lshl pm_m0 d0_430 rfl
theorem d0_431 : decode code 431 = .ok (.aload_n 0, 1) := by decide +kernel
theorem s0_431 {X : Nat × (Nat → Int32)} {v1 v2 v3 : Value} {l1 : Nat} {st : List Value} {im : IM} {rm : RM}  : evL X 431 [.ref l1, v1, v2, v3] st im rm = evL X 432 [.ref l1, v1, v2, v3] (.ref l1 :: st) (im) (rm) := evL_aload_n pm_m0 d0_431 rfl rfl
theorem d0_432 : decode code 432 = .ok (.iload_n 3, 1) := by decide +kernel
theorem s0_432 {X : Nat × (Nat → Int32)} {v0 v1 v2 : Value} {l1 : Int32} {st : List Value} {im : IM} {rm : RM}  : evL X 432 [v0, v1, v2, .int l1] st im rm = evL X 433 [v0, v1, v2, .int l1] (.int l1 :: st) (im) (rm) := evL_iload_n pm_m0 d0_432 rfl rfl
theorem d0_433 : decode code 433 = .ok (.iconst 2, 1) := by decide +kernel
theorem s0_433 {X : Nat × (Nat → Int32)} {v0 v1 v2 v3 : Value}  {st : List Value} {im : IM} {rm : RM}  : evL X 433 [v0, v1, v2, v3] st im rm = evL X 434 [v0, v1, v2, v3] (.int (nI 2) :: st) (im) (rm) := evL_iconst pm_m0 d0_433 rfl rfl
theorem d0_434 : decode code 434 = .ok (.iadd, 1) := by decide +kernel
theorem s0_434 {X : Nat × (Nat → Int32)} {v0 v1 v2 v3 : Value} {x : Int32} {y : Int32} {st : List Value} {im : IM} {rm : RM}  : evL X 434 [v0, v1, v2, v3] (.int y :: .int x :: st) im rm = evL X 435 [v0, v1, v2, v3] (.int (x + y) :: st) (im) (rm) := evL_iadd pm_m0 d0_434 rfl
theorem d0_435 : decode code 435 = .ok (.iaload, 1) := by decide +kernel
theorem s0_435 {X : Nat × (Nat → Int32)} {v0 v1 v2 v3 : Value} {i : Int32} {st : List Value} {im : IM} {rm : RM} (hk : kd 1000300 = 99) (hi : pm_in i X.1 = true) : evL X 435 [v0, v1, v2, v3] (.int i :: .ref 1000300 :: st) im rm = evL X 436 [v0, v1, v2, v3] (.int (X.2 i.toNatClampNeg) :: st) (im) (rm) := evL_sld pm_m0 rfl d0_435 hk hi rfl
theorem d0_436 : decode code 436 = .ok (.i2l, 1) := by decide +kernel
theorem s0_436 {X : Nat × (Nat → Int32)} {v0 v1 v2 v3 : Value} {x : Int32} {st : List Value} {im : IM} {rm : RM}  : evL X 436 [v0, v1, v2, v3] (.int x :: st) im rm = evL X 437 [v0, v1, v2, v3] (.long x.toInt64 :: st) (im) (rm) := evL_i2l pm_m0 d0_436 rfl
theorem d0_437 : decode code 437 = .ok (.ldc2_w 36, 3) := by decide +kernel
theorem s0_437 {X : Nat × (Nat → Int32)} {v0 v1 v2 v3 : Value}  {st : List Value} {im : IM} {rm : RM}  : evL X 437 [v0, v1, v2, v3] st im rm = evL X 440 [v0, v1, v2, v3] (.long (lN 4294967295) :: st) (im) (rm) := evL_ldc2 pm_m0 d0_437 (by decide +kernel) rfl
theorem d0_440 : decode code 440 = .ok (.land, 1) := by decide +kernel
theorem s0_440 {X : Nat × (Nat → Int32)} {v0 v1 v2 v3 : Value} {x : Int64} {y : Int64} {st : List Value} {im : IM} {rm : RM}  : evL X 440 [v0, v1, v2, v3] (.long y :: .long x :: st) im rm = evL X 441 [v0, v1, v2, v3] (.long (x &&& y) :: st) (im) (rm) := evL_land pm_m0 d0_440 rfl
theorem d0_441 : decode code 441 = .ok (.lor, 1) := by decide +kernel
theorem s0_441 {X : Nat × (Nat → Int32)} {v0 v1 v2 v3 : Value} {x : Int64} {y : Int64} {st : List Value} {im : IM} {rm : RM}  : evL X 441 [v0, v1, v2, v3] (.long y :: .long x :: st) im rm = evL X 442 [v0, v1, v2, v3] (.long (x ||| y) :: st) (im) (rm) := evL_lor pm_m0 d0_441 rfl
theorem d0_442 : decode code 442 = .ok (.aload_n 0, 1) := by decide +kernel
theorem s0_442 {X : Nat × (Nat → Int32)} {v1 v2 v3 : Value} {l1 : Nat} {st : List Value} {im : IM} {rm : RM}  : evL X 442 [.ref l1, v1, v2, v3] st im rm = evL X 443 [.ref l1, v1, v2, v3] (.ref l1 :: st) (im) (rm) := evL_aload_n pm_m0 d0_442 rfl rfl
theorem d0_443 : decode code 443 = .ok (.iload_n 3, 1) := by decide +kernel
theorem s0_443 {X : Nat × (Nat → Int32)} {v0 v1 v2 : Value} {l1 : Int32} {st : List Value} {im : IM} {rm : RM}  : evL X 443 [v0, v1, v2, .int l1] st im rm = evL X 444 [v0, v1, v2, .int l1] (.int l1 :: st) (im) (rm) := evL_iload_n pm_m0 d0_443 rfl rfl
theorem d0_444 : decode code 444 = .ok (.iconst 3, 1) := by decide +kernel
theorem s0_444 {X : Nat × (Nat → Int32)} {v0 v1 v2 v3 : Value}  {st : List Value} {im : IM} {rm : RM}  : evL X 444 [v0, v1, v2, v3] st im rm = evL X 445 [v0, v1, v2, v3] (.int (nI 3) :: st) (im) (rm) := evL_iconst pm_m0 d0_444 rfl rfl
theorem d0_445 : decode code 445 = .ok (.iadd, 1) := by decide +kernel
theorem s0_445 {X : Nat × (Nat → Int32)} {v0 v1 v2 v3 : Value} {x : Int32} {y : Int32} {st : List Value} {im : IM} {rm : RM}  : evL X 445 [v0, v1, v2, v3] (.int y :: .int x :: st) im rm = evL X 446 [v0, v1, v2, v3] (.int (x + y) :: st) (im) (rm) := evL_iadd pm_m0 d0_445 rfl
theorem d0_446 : decode code 446 = .ok (.iaload, 1) := by decide +kernel
theorem s0_446 {X : Nat × (Nat → Int32)} {v0 v1 v2 v3 : Value} {i : Int32} {st : List Value} {im : IM} {rm : RM} (hk : kd 1000300 = 99) (hi : pm_in i X.1 = true) : evL X 446 [v0, v1, v2, v3] (.int i :: .ref 1000300 :: st) im rm = evL X 447 [v0, v1, v2, v3] (.int (X.2 i.toNatClampNeg) :: st) (im) (rm) := evL_sld pm_m0 rfl d0_446 hk hi rfl
theorem d0_447 : decode code 447 = .ok (.invokevirtual 38, 3) := by decide +kernel
theorem s0_447 {X : Nat × (Nat → Int32)} {v0 v1 v2 v3 : Value} {a : Nat} {p1 : Int64} {p2 : Int32} {im : IM} {rm : RM} (hk : kd a = 17) : evL X 447 [v0, v1, v2, v3] [.int p2, .long p1, .ref a] im rm = (ev 46 0 [.ref a, .long p1, pm_u, .int p2] [] im rm).bind (fun r => evL X 450 [v0, v1, v2, v3] (r.1.toList ++ []) r.2.1 r.2.2) := evL_callV pm_m0 d0_447 l9_38 rfl pm_m46 (by decide) hk rfl ⟨rfl, rfl⟩ rfl rfl
theorem d0_450 : decode code 450 = .ok (.aload_n 2, 1) := by decide +kernel
theorem s0_450 {X : Nat × (Nat → Int32)} {v0 v1 v3 : Value} {l1 : Nat} {st : List Value} {im : IM} {rm : RM}  : evL X 450 [v0, v1, .ref l1, v3] st im rm = evL X 451 [v0, v1, .ref l1, v3] (.ref l1 :: st) (im) (rm) := evL_aload_n pm_m0 d0_450 rfl rfl
theorem d0_451 : decode code 451 = .ok (.aload_n 0, 1) := by decide +kernel
theorem s0_451 {X : Nat × (Nat → Int32)} {v1 v2 v3 : Value} {l1 : Nat} {st : List Value} {im : IM} {rm : RM}  : evL X 451 [.ref l1, v1, v2, v3] st im rm = evL X 452 [.ref l1, v1, v2, v3] (.ref l1 :: st) (im) (rm) := evL_aload_n pm_m0 d0_451 rfl rfl
theorem d0_452 : decode code 452 = .ok (.iload_n 3, 1) := by decide +kernel
theorem s0_452 {X : Nat × (Nat → Int32)} {v0 v1 v2 : Value} {l1 : Int32} {st : List Value} {im : IM} {rm : RM}  : evL X 452 [v0, v1, v2, .int l1] st im rm = evL X 453 [v0, v1, v2, .int l1] (.int l1 :: st) (im) (rm) := evL_iload_n pm_m0 d0_452 rfl rfl
theorem d0_453 : decode code 453 = .ok (.iconst 1, 1) := by decide +kernel
theorem s0_453 {X : Nat × (Nat → Int32)} {v0 v1 v2 v3 : Value}  {st : List Value} {im : IM} {rm : RM}  : evL X 453 [v0, v1, v2, v3] st im rm = evL X 454 [v0, v1, v2, v3] (.int (nI 1) :: st) (im) (rm) := evL_iconst pm_m0 d0_453 rfl rfl
theorem d0_454 : decode code 454 = .ok (.iadd, 1) := by decide +kernel
theorem s0_454 {X : Nat × (Nat → Int32)} {v0 v1 v2 v3 : Value} {x : Int32} {y : Int32} {st : List Value} {im : IM} {rm : RM}  : evL X 454 [v0, v1, v2, v3] (.int y :: .int x :: st) im rm = evL X 455 [v0, v1, v2, v3] (.int (x + y) :: st) (im) (rm) := evL_iadd pm_m0 d0_454 rfl
theorem d0_455 : decode code 455 = .ok (.iaload, 1) := by decide +kernel
theorem s0_455 {X : Nat × (Nat → Int32)} {v0 v1 v2 v3 : Value} {i : Int32} {st : List Value} {im : IM} {rm : RM} (hk : kd 1000300 = 99) (hi : pm_in i X.1 = true) : evL X 455 [v0, v1, v2, v3] (.int i :: .ref 1000300 :: st) im rm = evL X 456 [v0, v1, v2, v3] (.int (X.2 i.toNatClampNeg) :: st) (im) (rm) := evL_sld pm_m0 rfl d0_455 hk hi rfl
theorem d0_456 : decode code 456 = .ok (.i2l, 1) := by decide +kernel
theorem s0_456 {X : Nat × (Nat → Int32)} {v0 v1 v2 v3 : Value} {x : Int32} {st : List Value} {im : IM} {rm : RM}  : evL X 456 [v0, v1, v2, v3] (.int x :: st) im rm = evL X 457 [v0, v1, v2, v3] (.long x.toInt64 :: st) (im) (rm) := evL_i2l pm_m0 d0_456 rfl
theorem d0_457 : decode code 457 = .ok (.bipush 32, 2) := by decide +kernel
theorem s0_457 {X : Nat × (Nat → Int32)} {v0 v1 v2 v3 : Value}  {st : List Value} {im : IM} {rm : RM}  : evL X 457 [v0, v1, v2, v3] st im rm = evL X 459 [v0, v1, v2, v3] (.int (nI 32) :: st) (im) (rm) := evL_bipush pm_m0 d0_457 rfl rfl
theorem d0_459 : decode code 459 = .ok (.lshl, 1) := by decide +kernel
theorem s0_459 {X : Nat × (Nat → Int32)} {v0 v1 v2 v3 : Value} {x : Int64} {y : Int32} {st : List Value} {im : IM} {rm : RM}  : evL X 459 [v0, v1, v2, v3] (.int y :: .long x :: st) im rm = evL X 460 [v0, v1, v2, v3] (.long (x <<< (y.toInt64 &&& 63)) :: st) (im) (rm) := evL_lshl pm_m0 d0_459 rfl
theorem d0_460 : decode code 460 = .ok (.aload_n 0, 1) := by decide +kernel
theorem s0_460 {X : Nat × (Nat → Int32)} {v1 v2 v3 : Value} {l1 : Nat} {st : List Value} {im : IM} {rm : RM}  : evL X 460 [.ref l1, v1, v2, v3] st im rm = evL X 461 [.ref l1, v1, v2, v3] (.ref l1 :: st) (im) (rm) := evL_aload_n pm_m0 d0_460 rfl rfl
theorem d0_461 : decode code 461 = .ok (.iload_n 3, 1) := by decide +kernel
theorem s0_461 {X : Nat × (Nat → Int32)} {v0 v1 v2 : Value} {l1 : Int32} {st : List Value} {im : IM} {rm : RM}  : evL X 461 [v0, v1, v2, .int l1] st im rm = evL X 462 [v0, v1, v2, .int l1] (.int l1 :: st) (im) (rm) := evL_iload_n pm_m0 d0_461 rfl rfl
theorem d0_462 : decode code 462 = .ok (.iconst 2, 1) := by decide +kernel
theorem s0_462 {X : Nat × (Nat → Int32)} {v0 v1 v2 v3 : Value}  {st : List Value} {im : IM} {rm : RM}  : evL X 462 [v0, v1, v2, v3] st im rm = evL X 463 [v0, v1, v2, v3] (.int (nI 2) :: st) (im) (rm) := evL_iconst pm_m0 d0_462 rfl rfl
theorem d0_463 : decode code 463 = .ok (.iadd, 1) := by decide +kernel
theorem s0_463 {X : Nat × (Nat → Int32)} {v0 v1 v2 v3 : Value} {x : Int32} {y : Int32} {st : List Value} {im : IM} {rm : RM}  : evL X 463 [v0, v1, v2, v3] (.int y :: .int x :: st) im rm = evL X 464 [v0, v1, v2, v3] (.int (x + y) :: st) (im) (rm) := evL_iadd pm_m0 d0_463 rfl
theorem d0_464 : decode code 464 = .ok (.iaload, 1) := by decide +kernel
theorem s0_464 {X : Nat × (Nat → Int32)} {v0 v1 v2 v3 : Value} {i : Int32} {st : List Value} {im : IM} {rm : RM} (hk : kd 1000300 = 99) (hi : pm_in i X.1 = true) : evL X 464 [v0, v1, v2, v3] (.int i :: .ref 1000300 :: st) im rm = evL X 465 [v0, v1, v2, v3] (.int (X.2 i.toNatClampNeg) :: st) (im) (rm) := evL_sld pm_m0 rfl d0_464 hk hi rfl
theorem d0_465 : decode code 465 = .ok (.i2l, 1) := by decide +kernel
theorem s0_465 {X : Nat × (Nat → Int32)} {v0 v1 v2 v3 : Value} {x : Int32} {st : List Value} {im : IM} {rm : RM}  : evL X 465 [v0, v1, v2, v3] (.int x :: st) im rm = evL X 466 [v0, v1, v2, v3] (.long x.toInt64 :: st) (im) (rm) := evL_i2l pm_m0 d0_465 rfl
theorem d0_466 : decode code 466 = .ok (.ldc2_w 36, 3) := by decide +kernel
theorem s0_466 {X : Nat × (Nat → Int32)} {v0 v1 v2 v3 : Value}  {st : List Value} {im : IM} {rm : RM}  : evL X 466 [v0, v1, v2, v3] st im rm = evL X 469 [v0, v1, v2, v3] (.long (lN 4294967295) :: st) (im) (rm) := evL_ldc2 pm_m0 d0_466 (by decide +kernel) rfl
theorem d0_469 : decode code 469 = .ok (.land, 1) := by decide +kernel
theorem s0_469 {X : Nat × (Nat → Int32)} {v0 v1 v2 v3 : Value} {x : Int64} {y : Int64} {st : List Value} {im : IM} {rm : RM}  : evL X 469 [v0, v1, v2, v3] (.long y :: .long x :: st) im rm = evL X 470 [v0, v1, v2, v3] (.long (x &&& y) :: st) (im) (rm) := evL_land pm_m0 d0_469 rfl
theorem d0_470 : decode code 470 = .ok (.lor, 1) := by decide +kernel
theorem s0_470 {X : Nat × (Nat → Int32)} {v0 v1 v2 v3 : Value} {x : Int64} {y : Int64} {st : List Value} {im : IM} {rm : RM}  : evL X 470 [v0, v1, v2, v3] (.long y :: .long x :: st) im rm = evL X 471 [v0, v1, v2, v3] (.long (x ||| y) :: st) (im) (rm) := evL_lor pm_m0 d0_470 rfl
theorem d0_471 : decode code 471 = .ok (.aload_n 0, 1) := by decide +kernel
theorem s0_471 {X : Nat × (Nat → Int32)} {v1 v2 v3 : Value} {l1 : Nat} {st : List Value} {im : IM} {rm : RM}  : evL X 471 [.ref l1, v1, v2, v3] st im rm = evL X 472 [.ref l1, v1, v2, v3] (.ref l1 :: st) (im) (rm) := evL_aload_n pm_m0 d0_471 rfl rfl
theorem d0_472 : decode code 472 = .ok (.iload_n 3, 1) := by decide +kernel
theorem s0_472 {X : Nat × (Nat → Int32)} {v0 v1 v2 : Value} {l1 : Int32} {st : List Value} {im : IM} {rm : RM}  : evL X 472 [v0, v1, v2, .int l1] st im rm = evL X 473 [v0, v1, v2, .int l1] (.int l1 :: st) (im) (rm) := evL_iload_n pm_m0 d0_472 rfl rfl
theorem d0_473 : decode code 473 = .ok (.iconst 3, 1) := by decide +kernel
theorem s0_473 {X : Nat × (Nat → Int32)} {v0 v1 v2 v3 : Value}  {st : List Value} {im : IM} {rm : RM}  : evL X 473 [v0, v1, v2, v3] st im rm = evL X 474 [v0, v1, v2, v3] (.int (nI 3) :: st) (im) (rm) := evL_iconst pm_m0 d0_473 rfl rfl
theorem d0_474 : decode code 474 = .ok (.iadd, 1) := by decide +kernel
theorem s0_474 {X : Nat × (Nat → Int32)} {v0 v1 v2 v3 : Value} {x : Int32} {y : Int32} {st : List Value} {im : IM} {rm : RM}  : evL X 474 [v0, v1, v2, v3] (.int y :: .int x :: st) im rm = evL X 475 [v0, v1, v2, v3] (.int (x + y) :: st) (im) (rm) := evL_iadd pm_m0 d0_474 rfl
theorem d0_475 : decode code 475 = .ok (.iaload, 1) := by decide +kernel
theorem s0_475 {X : Nat × (Nat → Int32)} {v0 v1 v2 v3 : Value} {i : Int32} {st : List Value} {im : IM} {rm : RM} (hk : kd 1000300 = 99) (hi : pm_in i X.1 = true) : evL X 475 [v0, v1, v2, v3] (.int i :: .ref 1000300 :: st) im rm = evL X 476 [v0, v1, v2, v3] (.int (X.2 i.toNatClampNeg) :: st) (im) (rm) := evL_sld pm_m0 rfl d0_475 hk hi rfl
theorem d0_476 : decode code 476 = .ok (.invokevirtual 42, 3) := by decide +kernel
theorem s0_476 {X : Nat × (Nat → Int32)} {v0 v1 v2 v3 : Value} {a : Nat} {p1 : Int64} {p2 : Int32} {r3 : Int32} {im : IM} {rm : RM} (hk : kd a = 18) : evL X 476 [v0, v1, v2, v3] [.int p2, .long p1, .ref a, .int r3] im rm = (ev 117 0 [.ref a, .long p1, pm_u, .int p2, pm_u] [] im rm).bind (fun r => evL X 479 [v0, v1, v2, v3] (r.1.toList ++ [.int r3]) r.2.1 r.2.2) := evL_callV pm_m0 d0_476 l9_42 rfl pm_m117 (by decide) hk rfl ⟨rfl, rfl⟩ rfl rfl
theorem d0_479 : decode code 479 = .ok (.if_icmp .eq 870, 3) := by decide +kernel
theorem s0_479 {X : Nat × (Nat → Int32)} {v0 v1 v2 v3 : Value} {x : Int32} {y : Int32} {st : List Value} {im : IM} {rm : RM} : evL X 479 [v0, v1, v2, v3] (.int y :: .int x :: st) im rm = if x = y then evL X 1349 [v0, v1, v2, v3] st im rm else evL X 482 [v0, v1, v2, v3] st im rm := evL_icmp_eq pm_m0 d0_479 rfl rfl rfl
theorem d0_482 : decode code 482 = .ok (.iconst 0, 1) := by decide +kernel
theorem s0_482 {X : Nat × (Nat → Int32)} {v0 v1 v2 v3 : Value}  {st : List Value} {im : IM} {rm : RM}  : evL X 482 [v0, v1, v2, v3] st im rm = evL X 483 [v0, v1, v2, v3] (.int (nI 0) :: st) (im) (rm) := evL_iconst pm_m0 d0_482 rfl rfl
theorem d0_483 : decode code 483 = .ok (.ireturn, 1) := by decide +kernel
theorem s0_483 {X : Nat × (Nat → Int32)} {v0 v1 v2 v3 : Value} {x : Int32} {im : IM} {rm : RM} (hx : x = 0 ∨ x = 1) : evL X 483 [v0, v1, v2, v3] [.int x] im rm = some (some (.int x), im, rm) := evL_zreturn pm_m0 d0_483 rfl hx (by decide)
theorem d0_484 : decode code 484 = .ok (.aload_n 1, 1) := by decide +kernel
theorem s0_484 {X : Nat × (Nat → Int32)} {v0 v2 v3 : Value} {l1 : Nat} {st : List Value} {im : IM} {rm : RM}  : evL X 484 [v0, .ref l1, v2, v3] st im rm = evL X 485 [v0, .ref l1, v2, v3] (.ref l1 :: st) (im) (rm) := evL_aload_n pm_m0 d0_484 rfl rfl
theorem d0_485 : decode code 485 = .ok (.invokevirtual 43, 3) := by decide +kernel
theorem s0_485 {X : Nat × (Nat → Int32)} {v0 v1 v2 v3 : Value} {a : Nat} {im : IM} {rm : RM} (hk : kd a = 17) : evL X 485 [v0, v1, v2, v3] [.ref a] im rm = (ev 47 0 [.ref a, pm_u] [] im rm).bind (fun r => evL X 488 [v0, v1, v2, v3] (r.1.toList ++ []) r.2.1 r.2.2) := evL_callV pm_m0 d0_485 l9_43 rfl pm_m47 (by decide) hk rfl ⟨rfl, rfl⟩ rfl rfl
theorem d0_488 : decode code 488 = .ok (.aload_n 2, 1) := by decide +kernel
theorem s0_488 {X : Nat × (Nat → Int32)} {v0 v1 v3 : Value} {l1 : Nat} {st : List Value} {im : IM} {rm : RM}  : evL X 488 [v0, v1, .ref l1, v3] st im rm = evL X 489 [v0, v1, .ref l1, v3] (.ref l1 :: st) (im) (rm) := evL_aload_n pm_m0 d0_488 rfl rfl
theorem d0_489 : decode code 489 = .ok (.invokevirtual 47, 3) := by decide +kernel
theorem s0_489 {X : Nat × (Nat → Int32)} {v0 v1 v2 v3 : Value} {a : Nat} {r1 : Int32} {im : IM} {rm : RM} (hk : kd a = 18) : evL X 489 [v0, v1, v2, v3] [.ref a, .int r1] im rm = (ev 118 0 [.ref a, pm_u] [] im rm).bind (fun r => evL X 492 [v0, v1, v2, v3] (r.1.toList ++ [.int r1]) r.2.1 r.2.2) := evL_callV pm_m0 d0_489 l9_47 rfl pm_m118 (by decide) hk rfl ⟨rfl, rfl⟩ rfl rfl
theorem d0_492 : decode code 492 = .ok (.if_icmp .eq 857, 3) := by decide +kernel
theorem s0_492 {X : Nat × (Nat → Int32)} {v0 v1 v2 v3 : Value} {x : Int32} {y : Int32} {st : List Value} {im : IM} {rm : RM} : evL X 492 [v0, v1, v2, v3] (.int y :: .int x :: st) im rm = if x = y then evL X 1349 [v0, v1, v2, v3] st im rm else evL X 495 [v0, v1, v2, v3] st im rm := evL_icmp_eq pm_m0 d0_492 rfl rfl rfl
theorem d0_495 : decode code 495 = .ok (.iconst 0, 1) := by decide +kernel
theorem s0_495 {X : Nat × (Nat → Int32)} {v0 v1 v2 v3 : Value}  {st : List Value} {im : IM} {rm : RM}  : evL X 495 [v0, v1, v2, v3] st im rm = evL X 496 [v0, v1, v2, v3] (.int (nI 0) :: st) (im) (rm) := evL_iconst pm_m0 d0_495 rfl rfl
theorem d0_496 : decode code 496 = .ok (.ireturn, 1) := by decide +kernel
theorem s0_496 {X : Nat × (Nat → Int32)} {v0 v1 v2 v3 : Value} {x : Int32} {im : IM} {rm : RM} (hx : x = 0 ∨ x = 1) : evL X 496 [v0, v1, v2, v3] [.int x] im rm = some (some (.int x), im, rm) := evL_zreturn pm_m0 d0_496 rfl hx (by decide)
theorem d0_497 : decode code 497 = .ok (.aload_n 1, 1) := by decide +kernel
theorem s0_497 {X : Nat × (Nat → Int32)} {v0 v2 v3 : Value} {l1 : Nat} {st : List Value} {im : IM} {rm : RM}  : evL X 497 [v0, .ref l1, v2, v3] st im rm = evL X 498 [v0, .ref l1, v2, v3] (.ref l1 :: st) (im) (rm) := evL_aload_n pm_m0 d0_497 rfl rfl
theorem d0_498 : decode code 498 = .ok (.aload_n 0, 1) := by decide +kernel
theorem s0_498 {X : Nat × (Nat → Int32)} {v1 v2 v3 : Value} {l1 : Nat} {st : List Value} {im : IM} {rm : RM}  : evL X 498 [.ref l1, v1, v2, v3] st im rm = evL X 499 [.ref l1, v1, v2, v3] (.ref l1 :: st) (im) (rm) := evL_aload_n pm_m0 d0_498 rfl rfl
theorem d0_499 : decode code 499 = .ok (.iload_n 3, 1) := by decide +kernel
theorem s0_499 {X : Nat × (Nat → Int32)} {v0 v1 v2 : Value} {l1 : Int32} {st : List Value} {im : IM} {rm : RM}  : evL X 499 [v0, v1, v2, .int l1] st im rm = evL X 500 [v0, v1, v2, .int l1] (.int l1 :: st) (im) (rm) := evL_iload_n pm_m0 d0_499 rfl rfl
theorem d0_500 : decode code 500 = .ok (.iconst 1, 1) := by decide +kernel
theorem s0_500 {X : Nat × (Nat → Int32)} {v0 v1 v2 v3 : Value}  {st : List Value} {im : IM} {rm : RM}  : evL X 500 [v0, v1, v2, v3] st im rm = evL X 501 [v0, v1, v2, v3] (.int (nI 1) :: st) (im) (rm) := evL_iconst pm_m0 d0_500 rfl rfl
theorem d0_501 : decode code 501 = .ok (.iadd, 1) := by decide +kernel
theorem s0_501 {X : Nat × (Nat → Int32)} {v0 v1 v2 v3 : Value} {x : Int32} {y : Int32} {st : List Value} {im : IM} {rm : RM}  : evL X 501 [v0, v1, v2, v3] (.int y :: .int x :: st) im rm = evL X 502 [v0, v1, v2, v3] (.int (x + y) :: st) (im) (rm) := evL_iadd pm_m0 d0_501 rfl
theorem d0_502 : decode code 502 = .ok (.iaload, 1) := by decide +kernel
theorem s0_502 {X : Nat × (Nat → Int32)} {v0 v1 v2 v3 : Value} {i : Int32} {st : List Value} {im : IM} {rm : RM} (hk : kd 1000300 = 99) (hi : pm_in i X.1 = true) : evL X 502 [v0, v1, v2, v3] (.int i :: .ref 1000300 :: st) im rm = evL X 503 [v0, v1, v2, v3] (.int (X.2 i.toNatClampNeg) :: st) (im) (rm) := evL_sld pm_m0 rfl d0_502 hk hi rfl
theorem d0_503 : decode code 503 = .ok (.invokevirtual 48, 3) := by decide +kernel
theorem s0_503 {X : Nat × (Nat → Int32)} {v0 v1 v2 v3 : Value} {a : Nat} {p1 : Int32} {im : IM} {rm : RM} (hk : kd a = 17) : evL X 503 [v0, v1, v2, v3] [.int p1, .ref a] im rm = (ev 48 0 [.ref a, .int p1] [] im rm).bind (fun r => evL X 506 [v0, v1, v2, v3] (r.1.toList ++ []) r.2.1 r.2.2) := evL_callV pm_m0 d0_503 l9_48 rfl pm_m48 (by decide) hk rfl ⟨rfl, rfl⟩ rfl rfl
theorem d0_506 : decode code 506 = .ok (.aload_n 2, 1) := by decide +kernel
theorem s0_506 {X : Nat × (Nat → Int32)} {v0 v1 v3 : Value} {l1 : Nat} {st : List Value} {im : IM} {rm : RM}  : evL X 506 [v0, v1, .ref l1, v3] st im rm = evL X 507 [v0, v1, .ref l1, v3] (.ref l1 :: st) (im) (rm) := evL_aload_n pm_m0 d0_506 rfl rfl
theorem d0_507 : decode code 507 = .ok (.aload_n 0, 1) := by decide +kernel
theorem s0_507 {X : Nat × (Nat → Int32)} {v1 v2 v3 : Value} {l1 : Nat} {st : List Value} {im : IM} {rm : RM}  : evL X 507 [.ref l1, v1, v2, v3] st im rm = evL X 508 [.ref l1, v1, v2, v3] (.ref l1 :: st) (im) (rm) := evL_aload_n pm_m0 d0_507 rfl rfl
theorem d0_508 : decode code 508 = .ok (.iload_n 3, 1) := by decide +kernel
theorem s0_508 {X : Nat × (Nat → Int32)} {v0 v1 v2 : Value} {l1 : Int32} {st : List Value} {im : IM} {rm : RM}  : evL X 508 [v0, v1, v2, .int l1] st im rm = evL X 509 [v0, v1, v2, .int l1] (.int l1 :: st) (im) (rm) := evL_iload_n pm_m0 d0_508 rfl rfl
theorem d0_509 : decode code 509 = .ok (.iconst 1, 1) := by decide +kernel
theorem s0_509 {X : Nat × (Nat → Int32)} {v0 v1 v2 v3 : Value}  {st : List Value} {im : IM} {rm : RM}  : evL X 509 [v0, v1, v2, v3] st im rm = evL X 510 [v0, v1, v2, v3] (.int (nI 1) :: st) (im) (rm) := evL_iconst pm_m0 d0_509 rfl rfl
theorem d0_510 : decode code 510 = .ok (.iadd, 1) := by decide +kernel
theorem s0_510 {X : Nat × (Nat → Int32)} {v0 v1 v2 v3 : Value} {x : Int32} {y : Int32} {st : List Value} {im : IM} {rm : RM}  : evL X 510 [v0, v1, v2, v3] (.int y :: .int x :: st) im rm = evL X 511 [v0, v1, v2, v3] (.int (x + y) :: st) (im) (rm) := evL_iadd pm_m0 d0_510 rfl
theorem d0_511 : decode code 511 = .ok (.iaload, 1) := by decide +kernel
theorem s0_511 {X : Nat × (Nat → Int32)} {v0 v1 v2 v3 : Value} {i : Int32} {st : List Value} {im : IM} {rm : RM} (hk : kd 1000300 = 99) (hi : pm_in i X.1 = true) : evL X 511 [v0, v1, v2, v3] (.int i :: .ref 1000300 :: st) im rm = evL X 512 [v0, v1, v2, v3] (.int (X.2 i.toNatClampNeg) :: st) (im) (rm) := evL_sld pm_m0 rfl d0_511 hk hi rfl
theorem d0_512 : decode code 512 = .ok (.invokevirtual 52, 3) := by decide +kernel
theorem s0_512 {X : Nat × (Nat → Int32)} {v0 v1 v2 v3 : Value} {a : Nat} {p1 : Int32} {r2 : Int32} {im : IM} {rm : RM} (hk : kd a = 18) : evL X 512 [v0, v1, v2, v3] [.int p1, .ref a, .int r2] im rm = (ev 130 0 [.ref a, .int p1] [] im rm).bind (fun r => evL X 515 [v0, v1, v2, v3] (r.1.toList ++ [.int r2]) r.2.1 r.2.2) := evL_callV pm_m0 d0_512 l9_52 rfl pm_m130 (by decide) hk rfl ⟨rfl, rfl⟩ rfl rfl
theorem d0_515 : decode code 515 = .ok (.if_icmp .eq 834, 3) := by decide +kernel
theorem s0_515 {X : Nat × (Nat → Int32)} {v0 v1 v2 v3 : Value} {x : Int32} {y : Int32} {st : List Value} {im : IM} {rm : RM} : evL X 515 [v0, v1, v2, v3] (.int y :: .int x :: st) im rm = if x = y then evL X 1349 [v0, v1, v2, v3] st im rm else evL X 518 [v0, v1, v2, v3] st im rm := evL_icmp_eq pm_m0 d0_515 rfl rfl rfl
theorem d0_518 : decode code 518 = .ok (.iconst 0, 1) := by decide +kernel
theorem s0_518 {X : Nat × (Nat → Int32)} {v0 v1 v2 v3 : Value}  {st : List Value} {im : IM} {rm : RM}  : evL X 518 [v0, v1, v2, v3] st im rm = evL X 519 [v0, v1, v2, v3] (.int (nI 0) :: st) (im) (rm) := evL_iconst pm_m0 d0_518 rfl rfl
theorem d0_519 : decode code 519 = .ok (.ireturn, 1) := by decide +kernel
theorem s0_519 {X : Nat × (Nat → Int32)} {v0 v1 v2 v3 : Value} {x : Int32} {im : IM} {rm : RM} (hx : x = 0 ∨ x = 1) : evL X 519 [v0, v1, v2, v3] [.int x] im rm = some (some (.int x), im, rm) := evL_zreturn pm_m0 d0_519 rfl hx (by decide)
theorem d0_520 : decode code 520 = .ok (.aload_n 1, 1) := by decide +kernel
theorem s0_520 {X : Nat × (Nat → Int32)} {v0 v2 v3 : Value} {l1 : Nat} {st : List Value} {im : IM} {rm : RM}  : evL X 520 [v0, .ref l1, v2, v3] st im rm = evL X 521 [v0, .ref l1, v2, v3] (.ref l1 :: st) (im) (rm) := evL_aload_n pm_m0 d0_520 rfl rfl
theorem d0_521 : decode code 521 = .ok (.aload_n 0, 1) := by decide +kernel
theorem s0_521 {X : Nat × (Nat → Int32)} {v1 v2 v3 : Value} {l1 : Nat} {st : List Value} {im : IM} {rm : RM}  : evL X 521 [.ref l1, v1, v2, v3] st im rm = evL X 522 [.ref l1, v1, v2, v3] (.ref l1 :: st) (im) (rm) := evL_aload_n pm_m0 d0_521 rfl rfl
theorem d0_522 : decode code 522 = .ok (.iload_n 3, 1) := by decide +kernel
theorem s0_522 {X : Nat × (Nat → Int32)} {v0 v1 v2 : Value} {l1 : Int32} {st : List Value} {im : IM} {rm : RM}  : evL X 522 [v0, v1, v2, .int l1] st im rm = evL X 523 [v0, v1, v2, .int l1] (.int l1 :: st) (im) (rm) := evL_iload_n pm_m0 d0_522 rfl rfl
theorem d0_523 : decode code 523 = .ok (.iconst 1, 1) := by decide +kernel
theorem s0_523 {X : Nat × (Nat → Int32)} {v0 v1 v2 v3 : Value}  {st : List Value} {im : IM} {rm : RM}  : evL X 523 [v0, v1, v2, v3] st im rm = evL X 524 [v0, v1, v2, v3] (.int (nI 1) :: st) (im) (rm) := evL_iconst pm_m0 d0_523 rfl rfl
theorem d0_524 : decode code 524 = .ok (.iadd, 1) := by decide +kernel
theorem s0_524 {X : Nat × (Nat → Int32)} {v0 v1 v2 v3 : Value} {x : Int32} {y : Int32} {st : List Value} {im : IM} {rm : RM}  : evL X 524 [v0, v1, v2, v3] (.int y :: .int x :: st) im rm = evL X 525 [v0, v1, v2, v3] (.int (x + y) :: st) (im) (rm) := evL_iadd pm_m0 d0_524 rfl
theorem d0_525 : decode code 525 = .ok (.iaload, 1) := by decide +kernel
theorem s0_525 {X : Nat × (Nat → Int32)} {v0 v1 v2 v3 : Value} {i : Int32} {st : List Value} {im : IM} {rm : RM} (hk : kd 1000300 = 99) (hi : pm_in i X.1 = true) : evL X 525 [v0, v1, v2, v3] (.int i :: .ref 1000300 :: st) im rm = evL X 526 [v0, v1, v2, v3] (.int (X.2 i.toNatClampNeg) :: st) (im) (rm) := evL_sld pm_m0 rfl d0_525 hk hi rfl
theorem d0_526 : decode code 526 = .ok (.invokevirtual 53, 3) := by decide +kernel
theorem s0_526 {X : Nat × (Nat → Int32)} {v0 v1 v2 v3 : Value} {a : Nat} {p1 : Int32} {im : IM} {rm : RM} (hk : kd a = 17) : evL X 526 [v0, v1, v2, v3] [.int p1, .ref a] im rm = (ev 49 0 [.ref a, .int p1, pm_u] [] im rm).bind (fun r => evL X 529 [v0, v1, v2, v3] (r.1.toList ++ []) r.2.1 r.2.2) := evL_callV pm_m0 d0_526 l9_53 rfl pm_m49 (by decide) hk rfl ⟨rfl, rfl⟩ rfl rfl
theorem d0_529 : decode code 529 = .ok (.aload_n 2, 1) := by decide +kernel
theorem s0_529 {X : Nat × (Nat → Int32)} {v0 v1 v3 : Value} {l1 : Nat} {st : List Value} {im : IM} {rm : RM}  : evL X 529 [v0, v1, .ref l1, v3] st im rm = evL X 530 [v0, v1, .ref l1, v3] (.ref l1 :: st) (im) (rm) := evL_aload_n pm_m0 d0_529 rfl rfl
theorem d0_530 : decode code 530 = .ok (.aload_n 0, 1) := by decide +kernel
theorem s0_530 {X : Nat × (Nat → Int32)} {v1 v2 v3 : Value} {l1 : Nat} {st : List Value} {im : IM} {rm : RM}  : evL X 530 [.ref l1, v1, v2, v3] st im rm = evL X 531 [.ref l1, v1, v2, v3] (.ref l1 :: st) (im) (rm) := evL_aload_n pm_m0 d0_530 rfl rfl
theorem d0_531 : decode code 531 = .ok (.iload_n 3, 1) := by decide +kernel
theorem s0_531 {X : Nat × (Nat → Int32)} {v0 v1 v2 : Value} {l1 : Int32} {st : List Value} {im : IM} {rm : RM}  : evL X 531 [v0, v1, v2, .int l1] st im rm = evL X 532 [v0, v1, v2, .int l1] (.int l1 :: st) (im) (rm) := evL_iload_n pm_m0 d0_531 rfl rfl
theorem d0_532 : decode code 532 = .ok (.iconst 1, 1) := by decide +kernel
theorem s0_532 {X : Nat × (Nat → Int32)} {v0 v1 v2 v3 : Value}  {st : List Value} {im : IM} {rm : RM}  : evL X 532 [v0, v1, v2, v3] st im rm = evL X 533 [v0, v1, v2, v3] (.int (nI 1) :: st) (im) (rm) := evL_iconst pm_m0 d0_532 rfl rfl
theorem d0_533 : decode code 533 = .ok (.iadd, 1) := by decide +kernel
theorem s0_533 {X : Nat × (Nat → Int32)} {v0 v1 v2 v3 : Value} {x : Int32} {y : Int32} {st : List Value} {im : IM} {rm : RM}  : evL X 533 [v0, v1, v2, v3] (.int y :: .int x :: st) im rm = evL X 534 [v0, v1, v2, v3] (.int (x + y) :: st) (im) (rm) := evL_iadd pm_m0 d0_533 rfl
theorem d0_534 : decode code 534 = .ok (.iaload, 1) := by decide +kernel
theorem s0_534 {X : Nat × (Nat → Int32)} {v0 v1 v2 v3 : Value} {i : Int32} {st : List Value} {im : IM} {rm : RM} (hk : kd 1000300 = 99) (hi : pm_in i X.1 = true) : evL X 534 [v0, v1, v2, v3] (.int i :: .ref 1000300 :: st) im rm = evL X 535 [v0, v1, v2, v3] (.int (X.2 i.toNatClampNeg) :: st) (im) (rm) := evL_sld pm_m0 rfl d0_534 hk hi rfl
theorem d0_535 : decode code 535 = .ok (.invokevirtual 56, 3) := by decide +kernel
theorem s0_535 {X : Nat × (Nat → Int32)} {v0 v1 v2 v3 : Value} {a : Nat} {p1 : Int32} {r2 : Int32} {im : IM} {rm : RM} (hk : kd a = 18) : evL X 535 [v0, v1, v2, v3] [.int p1, .ref a, .int r2] im rm = (ev 131 0 [.ref a, .int p1, pm_u, pm_u] [] im rm).bind (fun r => evL X 538 [v0, v1, v2, v3] (r.1.toList ++ [.int r2]) r.2.1 r.2.2) := evL_callV pm_m0 d0_535 l9_56 rfl pm_m131 (by decide) hk rfl ⟨rfl, rfl⟩ rfl rfl
theorem d0_538 : decode code 538 = .ok (.if_icmp .eq 811, 3) := by decide +kernel
theorem s0_538 {X : Nat × (Nat → Int32)} {v0 v1 v2 v3 : Value} {x : Int32} {y : Int32} {st : List Value} {im : IM} {rm : RM} : evL X 538 [v0, v1, v2, v3] (.int y :: .int x :: st) im rm = if x = y then evL X 1349 [v0, v1, v2, v3] st im rm else evL X 541 [v0, v1, v2, v3] st im rm := evL_icmp_eq pm_m0 d0_538 rfl rfl rfl
theorem d0_541 : decode code 541 = .ok (.iconst 0, 1) := by decide +kernel
theorem s0_541 {X : Nat × (Nat → Int32)} {v0 v1 v2 v3 : Value}  {st : List Value} {im : IM} {rm : RM}  : evL X 541 [v0, v1, v2, v3] st im rm = evL X 542 [v0, v1, v2, v3] (.int (nI 0) :: st) (im) (rm) := evL_iconst pm_m0 d0_541 rfl rfl
theorem d0_542 : decode code 542 = .ok (.ireturn, 1) := by decide +kernel
theorem s0_542 {X : Nat × (Nat → Int32)} {v0 v1 v2 v3 : Value} {x : Int32} {im : IM} {rm : RM} (hx : x = 0 ∨ x = 1) : evL X 542 [v0, v1, v2, v3] [.int x] im rm = some (some (.int x), im, rm) := evL_zreturn pm_m0 d0_542 rfl hx (by decide)
theorem d0_543 : decode code 543 = .ok (.aload_n 1, 1) := by decide +kernel
theorem s0_543 {X : Nat × (Nat → Int32)} {v0 v2 v3 : Value} {l1 : Nat} {st : List Value} {im : IM} {rm : RM}  : evL X 543 [v0, .ref l1, v2, v3] st im rm = evL X 544 [v0, .ref l1, v2, v3] (.ref l1 :: st) (im) (rm) := evL_aload_n pm_m0 d0_543 rfl rfl
theorem d0_544 : decode code 544 = .ok (.aload_n 0, 1) := by decide +kernel
theorem s0_544 {X : Nat × (Nat → Int32)} {v1 v2 v3 : Value} {l1 : Nat} {st : List Value} {im : IM} {rm : RM}  : evL X 544 [.ref l1, v1, v2, v3] st im rm = evL X 545 [.ref l1, v1, v2, v3] (.ref l1 :: st) (im) (rm) := evL_aload_n pm_m0 d0_544 rfl rfl
theorem d0_545 : decode code 545 = .ok (.iload_n 3, 1) := by decide +kernel
theorem s0_545 {X : Nat × (Nat → Int32)} {v0 v1 v2 : Value} {l1 : Int32} {st : List Value} {im : IM} {rm : RM}  : evL X 545 [v0, v1, v2, .int l1] st im rm = evL X 546 [v0, v1, v2, .int l1] (.int l1 :: st) (im) (rm) := evL_iload_n pm_m0 d0_545 rfl rfl
theorem d0_546 : decode code 546 = .ok (.iconst 1, 1) := by decide +kernel
theorem s0_546 {X : Nat × (Nat → Int32)} {v0 v1 v2 v3 : Value}  {st : List Value} {im : IM} {rm : RM}  : evL X 546 [v0, v1, v2, v3] st im rm = evL X 547 [v0, v1, v2, v3] (.int (nI 1) :: st) (im) (rm) := evL_iconst pm_m0 d0_546 rfl rfl
theorem d0_547 : decode code 547 = .ok (.iadd, 1) := by decide +kernel
theorem s0_547 {X : Nat × (Nat → Int32)} {v0 v1 v2 v3 : Value} {x : Int32} {y : Int32} {st : List Value} {im : IM} {rm : RM}  : evL X 547 [v0, v1, v2, v3] (.int y :: .int x :: st) im rm = evL X 548 [v0, v1, v2, v3] (.int (x + y) :: st) (im) (rm) := evL_iadd pm_m0 d0_547 rfl
theorem d0_548 : decode code 548 = .ok (.iaload, 1) := by decide +kernel
theorem s0_548 {X : Nat × (Nat → Int32)} {v0 v1 v2 v3 : Value} {i : Int32} {st : List Value} {im : IM} {rm : RM} (hk : kd 1000300 = 99) (hi : pm_in i X.1 = true) : evL X 548 [v0, v1, v2, v3] (.int i :: .ref 1000300 :: st) im rm = evL X 549 [v0, v1, v2, v3] (.int (X.2 i.toNatClampNeg) :: st) (im) (rm) := evL_sld pm_m0 rfl d0_548 hk hi rfl
theorem d0_549 : decode code 549 = .ok (.invokevirtual 57, 3) := by decide +kernel
theorem s0_549 {X : Nat × (Nat → Int32)} {v0 v1 v2 v3 : Value} {a : Nat} {p1 : Int32} {im : IM} {rm : RM} (hk : kd a = 17) : evL X 549 [v0, v1, v2, v3] [.int p1, .ref a] im rm = (ev 50 0 [.ref a, .int p1, pm_u] [] im rm).bind (fun r => evL X 552 [v0, v1, v2, v3] (r.1.toList ++ []) r.2.1 r.2.2) := evL_callV pm_m0 d0_549 l9_57 rfl pm_m50 (by decide) hk rfl ⟨rfl, rfl⟩ rfl rfl
theorem d0_552 : decode code 552 = .ok (.aload_n 2, 1) := by decide +kernel
theorem s0_552 {X : Nat × (Nat → Int32)} {v0 v1 v3 : Value} {l1 : Nat} {st : List Value} {im : IM} {rm : RM}  : evL X 552 [v0, v1, .ref l1, v3] st im rm = evL X 553 [v0, v1, .ref l1, v3] (.ref l1 :: st) (im) (rm) := evL_aload_n pm_m0 d0_552 rfl rfl
theorem d0_553 : decode code 553 = .ok (.aload_n 0, 1) := by decide +kernel
theorem s0_553 {X : Nat × (Nat → Int32)} {v1 v2 v3 : Value} {l1 : Nat} {st : List Value} {im : IM} {rm : RM}  : evL X 553 [.ref l1, v1, v2, v3] st im rm = evL X 554 [.ref l1, v1, v2, v3] (.ref l1 :: st) (im) (rm) := evL_aload_n pm_m0 d0_553 rfl rfl
theorem d0_554 : decode code 554 = .ok (.iload_n 3, 1) := by decide +kernel
theorem s0_554 {X : Nat × (Nat → Int32)} {v0 v1 v2 : Value} {l1 : Int32} {st : List Value} {im : IM} {rm : RM}  : evL X 554 [v0, v1, v2, .int l1] st im rm = evL X 555 [v0, v1, v2, .int l1] (.int l1 :: st) (im) (rm) := evL_iload_n pm_m0 d0_554 rfl rfl
theorem d0_555 : decode code 555 = .ok (.iconst 1, 1) := by decide +kernel
theorem s0_555 {X : Nat × (Nat → Int32)} {v0 v1 v2 v3 : Value}  {st : List Value} {im : IM} {rm : RM}  : evL X 555 [v0, v1, v2, v3] st im rm = evL X 556 [v0, v1, v2, v3] (.int (nI 1) :: st) (im) (rm) := evL_iconst pm_m0 d0_555 rfl rfl
theorem d0_556 : decode code 556 = .ok (.iadd, 1) := by decide +kernel
theorem s0_556 {X : Nat × (Nat → Int32)} {v0 v1 v2 v3 : Value} {x : Int32} {y : Int32} {st : List Value} {im : IM} {rm : RM}  : evL X 556 [v0, v1, v2, v3] (.int y :: .int x :: st) im rm = evL X 557 [v0, v1, v2, v3] (.int (x + y) :: st) (im) (rm) := evL_iadd pm_m0 d0_556 rfl
theorem d0_557 : decode code 557 = .ok (.iaload, 1) := by decide +kernel
theorem s0_557 {X : Nat × (Nat → Int32)} {v0 v1 v2 v3 : Value} {i : Int32} {st : List Value} {im : IM} {rm : RM} (hk : kd 1000300 = 99) (hi : pm_in i X.1 = true) : evL X 557 [v0, v1, v2, v3] (.int i :: .ref 1000300 :: st) im rm = evL X 558 [v0, v1, v2, v3] (.int (X.2 i.toNatClampNeg) :: st) (im) (rm) := evL_sld pm_m0 rfl d0_557 hk hi rfl
theorem d0_558 : decode code 558 = .ok (.invokevirtual 60, 3) := by decide +kernel
theorem s0_558 {X : Nat × (Nat → Int32)} {v0 v1 v2 v3 : Value} {a : Nat} {p1 : Int32} {r2 : Int32} {im : IM} {rm : RM} (hk : kd a = 18) : evL X 558 [v0, v1, v2, v3] [.int p1, .ref a, .int r2] im rm = (ev 132 0 [.ref a, .int p1, pm_u] [] im rm).bind (fun r => evL X 561 [v0, v1, v2, v3] (r.1.toList ++ [.int r2]) r.2.1 r.2.2) := evL_callV pm_m0 d0_558 l9_60 rfl pm_m132 (by decide) hk rfl ⟨rfl, rfl⟩ rfl rfl
theorem d0_561 : decode code 561 = .ok (.if_icmp .eq 788, 3) := by decide +kernel
theorem s0_561 {X : Nat × (Nat → Int32)} {v0 v1 v2 v3 : Value} {x : Int32} {y : Int32} {st : List Value} {im : IM} {rm : RM} : evL X 561 [v0, v1, v2, v3] (.int y :: .int x :: st) im rm = if x = y then evL X 1349 [v0, v1, v2, v3] st im rm else evL X 564 [v0, v1, v2, v3] st im rm := evL_icmp_eq pm_m0 d0_561 rfl rfl rfl
theorem d0_564 : decode code 564 = .ok (.iconst 0, 1) := by decide +kernel
theorem s0_564 {X : Nat × (Nat → Int32)} {v0 v1 v2 v3 : Value}  {st : List Value} {im : IM} {rm : RM}  : evL X 564 [v0, v1, v2, v3] st im rm = evL X 565 [v0, v1, v2, v3] (.int (nI 0) :: st) (im) (rm) := evL_iconst pm_m0 d0_564 rfl rfl
theorem d0_565 : decode code 565 = .ok (.ireturn, 1) := by decide +kernel
theorem s0_565 {X : Nat × (Nat → Int32)} {v0 v1 v2 v3 : Value} {x : Int32} {im : IM} {rm : RM} (hx : x = 0 ∨ x = 1) : evL X 565 [v0, v1, v2, v3] [.int x] im rm = some (some (.int x), im, rm) := evL_zreturn pm_m0 d0_565 rfl hx (by decide)
theorem d0_566 : decode code 566 = .ok (.aload_n 1, 1) := by decide +kernel
theorem s0_566 {X : Nat × (Nat → Int32)} {v0 v2 v3 : Value} {l1 : Nat} {st : List Value} {im : IM} {rm : RM}  : evL X 566 [v0, .ref l1, v2, v3] st im rm = evL X 567 [v0, .ref l1, v2, v3] (.ref l1 :: st) (im) (rm) := evL_aload_n pm_m0 d0_566 rfl rfl
theorem d0_567 : decode code 567 = .ok (.aload_n 0, 1) := by decide +kernel
theorem s0_567 {X : Nat × (Nat → Int32)} {v1 v2 v3 : Value} {l1 : Nat} {st : List Value} {im : IM} {rm : RM}  : evL X 567 [.ref l1, v1, v2, v3] st im rm = evL X 568 [.ref l1, v1, v2, v3] (.ref l1 :: st) (im) (rm) := evL_aload_n pm_m0 d0_567 rfl rfl
theorem d0_568 : decode code 568 = .ok (.iload_n 3, 1) := by decide +kernel
theorem s0_568 {X : Nat × (Nat → Int32)} {v0 v1 v2 : Value} {l1 : Int32} {st : List Value} {im : IM} {rm : RM}  : evL X 568 [v0, v1, v2, .int l1] st im rm = evL X 569 [v0, v1, v2, .int l1] (.int l1 :: st) (im) (rm) := evL_iload_n pm_m0 d0_568 rfl rfl
theorem d0_569 : decode code 569 = .ok (.iconst 1, 1) := by decide +kernel
theorem s0_569 {X : Nat × (Nat → Int32)} {v0 v1 v2 v3 : Value}  {st : List Value} {im : IM} {rm : RM}  : evL X 569 [v0, v1, v2, v3] st im rm = evL X 570 [v0, v1, v2, v3] (.int (nI 1) :: st) (im) (rm) := evL_iconst pm_m0 d0_569 rfl rfl
theorem d0_570 : decode code 570 = .ok (.iadd, 1) := by decide +kernel
theorem s0_570 {X : Nat × (Nat → Int32)} {v0 v1 v2 v3 : Value} {x : Int32} {y : Int32} {st : List Value} {im : IM} {rm : RM}  : evL X 570 [v0, v1, v2, v3] (.int y :: .int x :: st) im rm = evL X 571 [v0, v1, v2, v3] (.int (x + y) :: st) (im) (rm) := evL_iadd pm_m0 d0_570 rfl
theorem d0_571 : decode code 571 = .ok (.iaload, 1) := by decide +kernel
theorem s0_571 {X : Nat × (Nat → Int32)} {v0 v1 v2 v3 : Value} {i : Int32} {st : List Value} {im : IM} {rm : RM} (hk : kd 1000300 = 99) (hi : pm_in i X.1 = true) : evL X 571 [v0, v1, v2, v3] (.int i :: .ref 1000300 :: st) im rm = evL X 572 [v0, v1, v2, v3] (.int (X.2 i.toNatClampNeg) :: st) (im) (rm) := evL_sld pm_m0 rfl d0_571 hk hi rfl
theorem d0_572 : decode code 572 = .ok (.aload_n 0, 1) := by decide +kernel
theorem s0_572 {X : Nat × (Nat → Int32)} {v1 v2 v3 : Value} {l1 : Nat} {st : List Value} {im : IM} {rm : RM}  : evL X 572 [.ref l1, v1, v2, v3] st im rm = evL X 573 [.ref l1, v1, v2, v3] (.ref l1 :: st) (im) (rm) := evL_aload_n pm_m0 d0_572 rfl rfl
theorem d0_573 : decode code 573 = .ok (.iload_n 3, 1) := by decide +kernel
theorem s0_573 {X : Nat × (Nat → Int32)} {v0 v1 v2 : Value} {l1 : Int32} {st : List Value} {im : IM} {rm : RM}  : evL X 573 [v0, v1, v2, .int l1] st im rm = evL X 574 [v0, v1, v2, .int l1] (.int l1 :: st) (im) (rm) := evL_iload_n pm_m0 d0_573 rfl rfl
theorem d0_574 : decode code 574 = .ok (.iconst 2, 1) := by decide +kernel
theorem s0_574 {X : Nat × (Nat → Int32)} {v0 v1 v2 v3 : Value}  {st : List Value} {im : IM} {rm : RM}  : evL X 574 [v0, v1, v2, v3] st im rm = evL X 575 [v0, v1, v2, v3] (.int (nI 2) :: st) (im) (rm) := evL_iconst pm_m0 d0_574 rfl rfl
theorem d0_575 : decode code 575 = .ok (.iadd, 1) := by decide +kernel
theorem s0_575 {X : Nat × (Nat → Int32)} {v0 v1 v2 v3 : Value} {x : Int32} {y : Int32} {st : List Value} {im : IM} {rm : RM}  : evL X 575 [v0, v1, v2, v3] (.int y :: .int x :: st) im rm = evL X 576 [v0, v1, v2, v3] (.int (x + y) :: st) (im) (rm) := evL_iadd pm_m0 d0_575 rfl
theorem d0_576 : decode code 576 = .ok (.iaload, 1) := by decide +kernel
theorem s0_576 {X : Nat × (Nat → Int32)} {v0 v1 v2 v3 : Value} {i : Int32} {st : List Value} {im : IM} {rm : RM} (hk : kd 1000300 = 99) (hi : pm_in i X.1 = true) : evL X 576 [v0, v1, v2, v3] (.int i :: .ref 1000300 :: st) im rm = evL X 577 [v0, v1, v2, v3] (.int (X.2 i.toNatClampNeg) :: st) (im) (rm) := evL_sld pm_m0 rfl d0_576 hk hi rfl
theorem d0_577 : decode code 577 = .ok (.aload_n 0, 1) := by decide +kernel
theorem s0_577 {X : Nat × (Nat → Int32)} {v1 v2 v3 : Value} {l1 : Nat} {st : List Value} {im : IM} {rm : RM}  : evL X 577 [.ref l1, v1, v2, v3] st im rm = evL X 578 [.ref l1, v1, v2, v3] (.ref l1 :: st) (im) (rm) := evL_aload_n pm_m0 d0_577 rfl rfl
theorem d0_578 : decode code 578 = .ok (.iload_n 3, 1) := by decide +kernel
theorem s0_578 {X : Nat × (Nat → Int32)} {v0 v1 v2 : Value} {l1 : Int32} {st : List Value} {im : IM} {rm : RM}  : evL X 578 [v0, v1, v2, .int l1] st im rm = evL X 579 [v0, v1, v2, .int l1] (.int l1 :: st) (im) (rm) := evL_iload_n pm_m0 d0_578 rfl rfl
theorem d0_579 : decode code 579 = .ok (.iconst 3, 1) := by decide +kernel
theorem s0_579 {X : Nat × (Nat → Int32)} {v0 v1 v2 v3 : Value}  {st : List Value} {im : IM} {rm : RM}  : evL X 579 [v0, v1, v2, v3] st im rm = evL X 580 [v0, v1, v2, v3] (.int (nI 3) :: st) (im) (rm) := evL_iconst pm_m0 d0_579 rfl rfl
theorem d0_580 : decode code 580 = .ok (.iadd, 1) := by decide +kernel
theorem s0_580 {X : Nat × (Nat → Int32)} {v0 v1 v2 v3 : Value} {x : Int32} {y : Int32} {st : List Value} {im : IM} {rm : RM}  : evL X 580 [v0, v1, v2, v3] (.int y :: .int x :: st) im rm = evL X 581 [v0, v1, v2, v3] (.int (x + y) :: st) (im) (rm) := evL_iadd pm_m0 d0_580 rfl
theorem d0_581 : decode code 581 = .ok (.iaload, 1) := by decide +kernel
theorem s0_581 {X : Nat × (Nat → Int32)} {v0 v1 v2 v3 : Value} {i : Int32} {st : List Value} {im : IM} {rm : RM} (hk : kd 1000300 = 99) (hi : pm_in i X.1 = true) : evL X 581 [v0, v1, v2, v3] (.int i :: .ref 1000300 :: st) im rm = evL X 582 [v0, v1, v2, v3] (.int (X.2 i.toNatClampNeg) :: st) (im) (rm) := evL_sld pm_m0 rfl d0_581 hk hi rfl
theorem d0_582 : decode code 582 = .ok (.aload_n 0, 1) := by decide +kernel
theorem s0_582 {X : Nat × (Nat → Int32)} {v1 v2 v3 : Value} {l1 : Nat} {st : List Value} {im : IM} {rm : RM}  : evL X 582 [.ref l1, v1, v2, v3] st im rm = evL X 583 [.ref l1, v1, v2, v3] (.ref l1 :: st) (im) (rm) := evL_aload_n pm_m0 d0_582 rfl rfl
theorem d0_583 : decode code 583 = .ok (.iload_n 3, 1) := by decide +kernel
theorem s0_583 {X : Nat × (Nat → Int32)} {v0 v1 v2 : Value} {l1 : Int32} {st : List Value} {im : IM} {rm : RM}  : evL X 583 [v0, v1, v2, .int l1] st im rm = evL X 584 [v0, v1, v2, .int l1] (.int l1 :: st) (im) (rm) := evL_iload_n pm_m0 d0_583 rfl rfl
theorem d0_584 : decode code 584 = .ok (.iconst 4, 1) := by decide +kernel
theorem s0_584 {X : Nat × (Nat → Int32)} {v0 v1 v2 v3 : Value}  {st : List Value} {im : IM} {rm : RM}  : evL X 584 [v0, v1, v2, v3] st im rm = evL X 585 [v0, v1, v2, v3] (.int (nI 4) :: st) (im) (rm) := evL_iconst pm_m0 d0_584 rfl rfl
theorem d0_585 : decode code 585 = .ok (.iadd, 1) := by decide +kernel
theorem s0_585 {X : Nat × (Nat → Int32)} {v0 v1 v2 v3 : Value} {x : Int32} {y : Int32} {st : List Value} {im : IM} {rm : RM}  : evL X 585 [v0, v1, v2, v3] (.int y :: .int x :: st) im rm = evL X 586 [v0, v1, v2, v3] (.int (x + y) :: st) (im) (rm) := evL_iadd pm_m0 d0_585 rfl
theorem d0_586 : decode code 586 = .ok (.iaload, 1) := by decide +kernel
theorem s0_586 {X : Nat × (Nat → Int32)} {v0 v1 v2 v3 : Value} {i : Int32} {st : List Value} {im : IM} {rm : RM} (hk : kd 1000300 = 99) (hi : pm_in i X.1 = true) : evL X 586 [v0, v1, v2, v3] (.int i :: .ref 1000300 :: st) im rm = evL X 587 [v0, v1, v2, v3] (.int (X.2 i.toNatClampNeg) :: st) (im) (rm) := evL_sld pm_m0 rfl d0_586 hk hi rfl
theorem d0_587 : decode code 587 = .ok (.invokevirtual 61, 3) := by decide +kernel
theorem s0_587 {X : Nat × (Nat → Int32)} {v0 v1 v2 v3 : Value} {a : Nat} {p1 : Int32} {p2 : Int32} {p3 : Int32} {p4 : Int32} {im : IM} {rm : RM} (hk : kd a = 17) : evL X 587 [v0, v1, v2, v3] [.int p4, .int p3, .int p2, .int p1, .ref a] im rm = (ev 51 0 [.ref a, .int p1, .int p2, .int p3, .int p4] [] im rm).bind (fun r => evL X 590 [v0, v1, v2, v3] (r.1.toList ++ []) r.2.1 r.2.2) := evL_callV pm_m0 d0_587 l9_61 rfl pm_m51 (by decide) hk rfl ⟨rfl, rfl⟩ rfl rfl
theorem d0_590 : decode code 590 = .ok (.aload_n 2, 1) := by decide +kernel
theorem s0_590 {X : Nat × (Nat → Int32)} {v0 v1 v3 : Value} {l1 : Nat} {st : List Value} {im : IM} {rm : RM}  : evL X 590 [v0, v1, .ref l1, v3] st im rm = evL X 591 [v0, v1, .ref l1, v3] (.ref l1 :: st) (im) (rm) := evL_aload_n pm_m0 d0_590 rfl rfl
theorem d0_591 : decode code 591 = .ok (.aload_n 0, 1) := by decide +kernel
theorem s0_591 {X : Nat × (Nat → Int32)} {v1 v2 v3 : Value} {l1 : Nat} {st : List Value} {im : IM} {rm : RM}  : evL X 591 [.ref l1, v1, v2, v3] st im rm = evL X 592 [.ref l1, v1, v2, v3] (.ref l1 :: st) (im) (rm) := evL_aload_n pm_m0 d0_591 rfl rfl
theorem d0_592 : decode code 592 = .ok (.iload_n 3, 1) := by decide +kernel
theorem s0_592 {X : Nat × (Nat → Int32)} {v0 v1 v2 : Value} {l1 : Int32} {st : List Value} {im : IM} {rm : RM}  : evL X 592 [v0, v1, v2, .int l1] st im rm = evL X 593 [v0, v1, v2, .int l1] (.int l1 :: st) (im) (rm) := evL_iload_n pm_m0 d0_592 rfl rfl
theorem d0_593 : decode code 593 = .ok (.iconst 1, 1) := by decide +kernel
theorem s0_593 {X : Nat × (Nat → Int32)} {v0 v1 v2 v3 : Value}  {st : List Value} {im : IM} {rm : RM}  : evL X 593 [v0, v1, v2, v3] st im rm = evL X 594 [v0, v1, v2, v3] (.int (nI 1) :: st) (im) (rm) := evL_iconst pm_m0 d0_593 rfl rfl
theorem d0_594 : decode code 594 = .ok (.iadd, 1) := by decide +kernel
theorem s0_594 {X : Nat × (Nat → Int32)} {v0 v1 v2 v3 : Value} {x : Int32} {y : Int32} {st : List Value} {im : IM} {rm : RM}  : evL X 594 [v0, v1, v2, v3] (.int y :: .int x :: st) im rm = evL X 595 [v0, v1, v2, v3] (.int (x + y) :: st) (im) (rm) := evL_iadd pm_m0 d0_594 rfl
theorem d0_595 : decode code 595 = .ok (.iaload, 1) := by decide +kernel
theorem s0_595 {X : Nat × (Nat → Int32)} {v0 v1 v2 v3 : Value} {i : Int32} {st : List Value} {im : IM} {rm : RM} (hk : kd 1000300 = 99) (hi : pm_in i X.1 = true) : evL X 595 [v0, v1, v2, v3] (.int i :: .ref 1000300 :: st) im rm = evL X 596 [v0, v1, v2, v3] (.int (X.2 i.toNatClampNeg) :: st) (im) (rm) := evL_sld pm_m0 rfl d0_595 hk hi rfl
theorem d0_596 : decode code 596 = .ok (.aload_n 0, 1) := by decide +kernel
theorem s0_596 {X : Nat × (Nat → Int32)} {v1 v2 v3 : Value} {l1 : Nat} {st : List Value} {im : IM} {rm : RM}  : evL X 596 [.ref l1, v1, v2, v3] st im rm = evL X 597 [.ref l1, v1, v2, v3] (.ref l1 :: st) (im) (rm) := evL_aload_n pm_m0 d0_596 rfl rfl
theorem d0_597 : decode code 597 = .ok (.iload_n 3, 1) := by decide +kernel
theorem s0_597 {X : Nat × (Nat → Int32)} {v0 v1 v2 : Value} {l1 : Int32} {st : List Value} {im : IM} {rm : RM}  : evL X 597 [v0, v1, v2, .int l1] st im rm = evL X 598 [v0, v1, v2, .int l1] (.int l1 :: st) (im) (rm) := evL_iload_n pm_m0 d0_597 rfl rfl
theorem d0_598 : decode code 598 = .ok (.iconst 2, 1) := by decide +kernel
theorem s0_598 {X : Nat × (Nat → Int32)} {v0 v1 v2 v3 : Value}  {st : List Value} {im : IM} {rm : RM}  : evL X 598 [v0, v1, v2, v3] st im rm = evL X 599 [v0, v1, v2, v3] (.int (nI 2) :: st) (im) (rm) := evL_iconst pm_m0 d0_598 rfl rfl
theorem d0_599 : decode code 599 = .ok (.iadd, 1) := by decide +kernel
theorem s0_599 {X : Nat × (Nat → Int32)} {v0 v1 v2 v3 : Value} {x : Int32} {y : Int32} {st : List Value} {im : IM} {rm : RM}  : evL X 599 [v0, v1, v2, v3] (.int y :: .int x :: st) im rm = evL X 600 [v0, v1, v2, v3] (.int (x + y) :: st) (im) (rm) := evL_iadd pm_m0 d0_599 rfl
theorem d0_600 : decode code 600 = .ok (.iaload, 1) := by decide +kernel
theorem s0_600 {X : Nat × (Nat → Int32)} {v0 v1 v2 v3 : Value} {i : Int32} {st : List Value} {im : IM} {rm : RM} (hk : kd 1000300 = 99) (hi : pm_in i X.1 = true) : evL X 600 [v0, v1, v2, v3] (.int i :: .ref 1000300 :: st) im rm = evL X 601 [v0, v1, v2, v3] (.int (X.2 i.toNatClampNeg) :: st) (im) (rm) := evL_sld pm_m0 rfl d0_600 hk hi rfl
theorem d0_601 : decode code 601 = .ok (.aload_n 0, 1) := by decide +kernel
theorem s0_601 {X : Nat × (Nat → Int32)} {v1 v2 v3 : Value} {l1 : Nat} {st : List Value} {im : IM} {rm : RM}  : evL X 601 [.ref l1, v1, v2, v3] st im rm = evL X 602 [.ref l1, v1, v2, v3] (.ref l1 :: st) (im) (rm) := evL_aload_n pm_m0 d0_601 rfl rfl
theorem d0_602 : decode code 602 = .ok (.iload_n 3, 1) := by decide +kernel
theorem s0_602 {X : Nat × (Nat → Int32)} {v0 v1 v2 : Value} {l1 : Int32} {st : List Value} {im : IM} {rm : RM}  : evL X 602 [v0, v1, v2, .int l1] st im rm = evL X 603 [v0, v1, v2, .int l1] (.int l1 :: st) (im) (rm) := evL_iload_n pm_m0 d0_602 rfl rfl
theorem d0_603 : decode code 603 = .ok (.iconst 3, 1) := by decide +kernel
theorem s0_603 {X : Nat × (Nat → Int32)} {v0 v1 v2 v3 : Value}  {st : List Value} {im : IM} {rm : RM}  : evL X 603 [v0, v1, v2, v3] st im rm = evL X 604 [v0, v1, v2, v3] (.int (nI 3) :: st) (im) (rm) := evL_iconst pm_m0 d0_603 rfl rfl
theorem d0_604 : decode code 604 = .ok (.iadd, 1) := by decide +kernel
theorem s0_604 {X : Nat × (Nat → Int32)} {v0 v1 v2 v3 : Value} {x : Int32} {y : Int32} {st : List Value} {im : IM} {rm : RM}  : evL X 604 [v0, v1, v2, v3] (.int y :: .int x :: st) im rm = evL X 605 [v0, v1, v2, v3] (.int (x + y) :: st) (im) (rm) := evL_iadd pm_m0 d0_604 rfl
theorem d0_605 : decode code 605 = .ok (.iaload, 1) := by decide +kernel
theorem s0_605 {X : Nat × (Nat → Int32)} {v0 v1 v2 v3 : Value} {i : Int32} {st : List Value} {im : IM} {rm : RM} (hk : kd 1000300 = 99) (hi : pm_in i X.1 = true) : evL X 605 [v0, v1, v2, v3] (.int i :: .ref 1000300 :: st) im rm = evL X 606 [v0, v1, v2, v3] (.int (X.2 i.toNatClampNeg) :: st) (im) (rm) := evL_sld pm_m0 rfl d0_605 hk hi rfl
theorem d0_606 : decode code 606 = .ok (.aload_n 0, 1) := by decide +kernel
theorem s0_606 {X : Nat × (Nat → Int32)} {v1 v2 v3 : Value} {l1 : Nat} {st : List Value} {im : IM} {rm : RM}  : evL X 606 [.ref l1, v1, v2, v3] st im rm = evL X 607 [.ref l1, v1, v2, v3] (.ref l1 :: st) (im) (rm) := evL_aload_n pm_m0 d0_606 rfl rfl
theorem d0_607 : decode code 607 = .ok (.iload_n 3, 1) := by decide +kernel
theorem s0_607 {X : Nat × (Nat → Int32)} {v0 v1 v2 : Value} {l1 : Int32} {st : List Value} {im : IM} {rm : RM}  : evL X 607 [v0, v1, v2, .int l1] st im rm = evL X 608 [v0, v1, v2, .int l1] (.int l1 :: st) (im) (rm) := evL_iload_n pm_m0 d0_607 rfl rfl
theorem d0_608 : decode code 608 = .ok (.iconst 4, 1) := by decide +kernel
theorem s0_608 {X : Nat × (Nat → Int32)} {v0 v1 v2 v3 : Value}  {st : List Value} {im : IM} {rm : RM}  : evL X 608 [v0, v1, v2, v3] st im rm = evL X 609 [v0, v1, v2, v3] (.int (nI 4) :: st) (im) (rm) := evL_iconst pm_m0 d0_608 rfl rfl
theorem d0_609 : decode code 609 = .ok (.iadd, 1) := by decide +kernel
theorem s0_609 {X : Nat × (Nat → Int32)} {v0 v1 v2 v3 : Value} {x : Int32} {y : Int32} {st : List Value} {im : IM} {rm : RM}  : evL X 609 [v0, v1, v2, v3] (.int y :: .int x :: st) im rm = evL X 610 [v0, v1, v2, v3] (.int (x + y) :: st) (im) (rm) := evL_iadd pm_m0 d0_609 rfl
theorem d0_610 : decode code 610 = .ok (.iaload, 1) := by decide +kernel
theorem s0_610 {X : Nat × (Nat → Int32)} {v0 v1 v2 v3 : Value} {i : Int32} {st : List Value} {im : IM} {rm : RM} (hk : kd 1000300 = 99) (hi : pm_in i X.1 = true) : evL X 610 [v0, v1, v2, v3] (.int i :: .ref 1000300 :: st) im rm = evL X 611 [v0, v1, v2, v3] (.int (X.2 i.toNatClampNeg) :: st) (im) (rm) := evL_sld pm_m0 rfl d0_610 hk hi rfl
theorem d0_611 : decode code 611 = .ok (.invokevirtual 65, 3) := by decide +kernel
theorem s0_611 {X : Nat × (Nat → Int32)} {v0 v1 v2 v3 : Value} {a : Nat} {p1 : Int32} {p2 : Int32} {p3 : Int32} {p4 : Int32} {r5 : Int32} {im : IM} {rm : RM} (hk : kd a = 18) : evL X 611 [v0, v1, v2, v3] [.int p4, .int p3, .int p2, .int p1, .ref a, .int r5] im rm = (ev 136 0 [.ref a, .int p1, .int p2, .int p3, .int p4] [] im rm).bind (fun r => evL X 614 [v0, v1, v2, v3] (r.1.toList ++ [.int r5]) r.2.1 r.2.2) := evL_callV pm_m0 d0_611 l9_65 rfl pm_m136 (by decide) hk rfl ⟨rfl, rfl⟩ rfl rfl
theorem d0_614 : decode code 614 = .ok (.if_icmp .eq 735, 3) := by decide +kernel
theorem s0_614 {X : Nat × (Nat → Int32)} {v0 v1 v2 v3 : Value} {x : Int32} {y : Int32} {st : List Value} {im : IM} {rm : RM} : evL X 614 [v0, v1, v2, v3] (.int y :: .int x :: st) im rm = if x = y then evL X 1349 [v0, v1, v2, v3] st im rm else evL X 617 [v0, v1, v2, v3] st im rm := evL_icmp_eq pm_m0 d0_614 rfl rfl rfl
theorem d0_617 : decode code 617 = .ok (.iconst 0, 1) := by decide +kernel
theorem s0_617 {X : Nat × (Nat → Int32)} {v0 v1 v2 v3 : Value}  {st : List Value} {im : IM} {rm : RM}  : evL X 617 [v0, v1, v2, v3] st im rm = evL X 618 [v0, v1, v2, v3] (.int (nI 0) :: st) (im) (rm) := evL_iconst pm_m0 d0_617 rfl rfl
theorem d0_618 : decode code 618 = .ok (.ireturn, 1) := by decide +kernel
theorem s0_618 {X : Nat × (Nat → Int32)} {v0 v1 v2 v3 : Value} {x : Int32} {im : IM} {rm : RM} (hx : x = 0 ∨ x = 1) : evL X 618 [v0, v1, v2, v3] [.int x] im rm = some (some (.int x), im, rm) := evL_zreturn pm_m0 d0_618 rfl hx (by decide)
theorem d0_619 : decode code 619 = .ok (.aload_n 1, 1) := by decide +kernel
theorem s0_619 {X : Nat × (Nat → Int32)} {v0 v2 v3 : Value} {l1 : Nat} {st : List Value} {im : IM} {rm : RM}  : evL X 619 [v0, .ref l1, v2, v3] st im rm = evL X 620 [v0, .ref l1, v2, v3] (.ref l1 :: st) (im) (rm) := evL_aload_n pm_m0 d0_619 rfl rfl
theorem d0_620 : decode code 620 = .ok (.aload_n 0, 1) := by decide +kernel
theorem s0_620 {X : Nat × (Nat → Int32)} {v1 v2 v3 : Value} {l1 : Nat} {st : List Value} {im : IM} {rm : RM}  : evL X 620 [.ref l1, v1, v2, v3] st im rm = evL X 621 [.ref l1, v1, v2, v3] (.ref l1 :: st) (im) (rm) := evL_aload_n pm_m0 d0_620 rfl rfl
theorem d0_621 : decode code 621 = .ok (.iload_n 3, 1) := by decide +kernel
theorem s0_621 {X : Nat × (Nat → Int32)} {v0 v1 v2 : Value} {l1 : Int32} {st : List Value} {im : IM} {rm : RM}  : evL X 621 [v0, v1, v2, .int l1] st im rm = evL X 622 [v0, v1, v2, .int l1] (.int l1 :: st) (im) (rm) := evL_iload_n pm_m0 d0_621 rfl rfl
theorem d0_622 : decode code 622 = .ok (.iconst 1, 1) := by decide +kernel
theorem s0_622 {X : Nat × (Nat → Int32)} {v0 v1 v2 v3 : Value}  {st : List Value} {im : IM} {rm : RM}  : evL X 622 [v0, v1, v2, v3] st im rm = evL X 623 [v0, v1, v2, v3] (.int (nI 1) :: st) (im) (rm) := evL_iconst pm_m0 d0_622 rfl rfl
theorem d0_623 : decode code 623 = .ok (.iadd, 1) := by decide +kernel
theorem s0_623 {X : Nat × (Nat → Int32)} {v0 v1 v2 v3 : Value} {x : Int32} {y : Int32} {st : List Value} {im : IM} {rm : RM}  : evL X 623 [v0, v1, v2, v3] (.int y :: .int x :: st) im rm = evL X 624 [v0, v1, v2, v3] (.int (x + y) :: st) (im) (rm) := evL_iadd pm_m0 d0_623 rfl
theorem d0_624 : decode code 624 = .ok (.iaload, 1) := by decide +kernel
theorem s0_624 {X : Nat × (Nat → Int32)} {v0 v1 v2 v3 : Value} {i : Int32} {st : List Value} {im : IM} {rm : RM} (hk : kd 1000300 = 99) (hi : pm_in i X.1 = true) : evL X 624 [v0, v1, v2, v3] (.int i :: .ref 1000300 :: st) im rm = evL X 625 [v0, v1, v2, v3] (.int (X.2 i.toNatClampNeg) :: st) (im) (rm) := evL_sld pm_m0 rfl d0_624 hk hi rfl
theorem d0_625 : decode code 625 = .ok (.aload_n 0, 1) := by decide +kernel
theorem s0_625 {X : Nat × (Nat → Int32)} {v1 v2 v3 : Value} {l1 : Nat} {st : List Value} {im : IM} {rm : RM}  : evL X 625 [.ref l1, v1, v2, v3] st im rm = evL X 626 [.ref l1, v1, v2, v3] (.ref l1 :: st) (im) (rm) := evL_aload_n pm_m0 d0_625 rfl rfl
theorem d0_626 : decode code 626 = .ok (.iload_n 3, 1) := by decide +kernel
theorem s0_626 {X : Nat × (Nat → Int32)} {v0 v1 v2 : Value} {l1 : Int32} {st : List Value} {im : IM} {rm : RM}  : evL X 626 [v0, v1, v2, .int l1] st im rm = evL X 627 [v0, v1, v2, .int l1] (.int l1 :: st) (im) (rm) := evL_iload_n pm_m0 d0_626 rfl rfl
theorem d0_627 : decode code 627 = .ok (.iconst 2, 1) := by decide +kernel
theorem s0_627 {X : Nat × (Nat → Int32)} {v0 v1 v2 v3 : Value}  {st : List Value} {im : IM} {rm : RM}  : evL X 627 [v0, v1, v2, v3] st im rm = evL X 628 [v0, v1, v2, v3] (.int (nI 2) :: st) (im) (rm) := evL_iconst pm_m0 d0_627 rfl rfl
theorem d0_628 : decode code 628 = .ok (.iadd, 1) := by decide +kernel
theorem s0_628 {X : Nat × (Nat → Int32)} {v0 v1 v2 v3 : Value} {x : Int32} {y : Int32} {st : List Value} {im : IM} {rm : RM}  : evL X 628 [v0, v1, v2, v3] (.int y :: .int x :: st) im rm = evL X 629 [v0, v1, v2, v3] (.int (x + y) :: st) (im) (rm) := evL_iadd pm_m0 d0_628 rfl
theorem d0_629 : decode code 629 = .ok (.iaload, 1) := by decide +kernel
theorem s0_629 {X : Nat × (Nat → Int32)} {v0 v1 v2 v3 : Value} {i : Int32} {st : List Value} {im : IM} {rm : RM} (hk : kd 1000300 = 99) (hi : pm_in i X.1 = true) : evL X 629 [v0, v1, v2, v3] (.int i :: .ref 1000300 :: st) im rm = evL X 630 [v0, v1, v2, v3] (.int (X.2 i.toNatClampNeg) :: st) (im) (rm) := evL_sld pm_m0 rfl d0_629 hk hi rfl
theorem d0_630 : decode code 630 = .ok (.aload_n 0, 1) := by decide +kernel
theorem s0_630 {X : Nat × (Nat → Int32)} {v1 v2 v3 : Value} {l1 : Nat} {st : List Value} {im : IM} {rm : RM}  : evL X 630 [.ref l1, v1, v2, v3] st im rm = evL X 631 [.ref l1, v1, v2, v3] (.ref l1 :: st) (im) (rm) := evL_aload_n pm_m0 d0_630 rfl rfl
theorem d0_631 : decode code 631 = .ok (.iload_n 3, 1) := by decide +kernel
theorem s0_631 {X : Nat × (Nat → Int32)} {v0 v1 v2 : Value} {l1 : Int32} {st : List Value} {im : IM} {rm : RM}  : evL X 631 [v0, v1, v2, .int l1] st im rm = evL X 632 [v0, v1, v2, .int l1] (.int l1 :: st) (im) (rm) := evL_iload_n pm_m0 d0_631 rfl rfl
theorem d0_632 : decode code 632 = .ok (.iconst 3, 1) := by decide +kernel
theorem s0_632 {X : Nat × (Nat → Int32)} {v0 v1 v2 v3 : Value}  {st : List Value} {im : IM} {rm : RM}  : evL X 632 [v0, v1, v2, v3] st im rm = evL X 633 [v0, v1, v2, v3] (.int (nI 3) :: st) (im) (rm) := evL_iconst pm_m0 d0_632 rfl rfl
theorem d0_633 : decode code 633 = .ok (.iadd, 1) := by decide +kernel
theorem s0_633 {X : Nat × (Nat → Int32)} {v0 v1 v2 v3 : Value} {x : Int32} {y : Int32} {st : List Value} {im : IM} {rm : RM}  : evL X 633 [v0, v1, v2, v3] (.int y :: .int x :: st) im rm = evL X 634 [v0, v1, v2, v3] (.int (x + y) :: st) (im) (rm) := evL_iadd pm_m0 d0_633 rfl
theorem d0_634 : decode code 634 = .ok (.iaload, 1) := by decide +kernel
theorem s0_634 {X : Nat × (Nat → Int32)} {v0 v1 v2 v3 : Value} {i : Int32} {st : List Value} {im : IM} {rm : RM} (hk : kd 1000300 = 99) (hi : pm_in i X.1 = true) : evL X 634 [v0, v1, v2, v3] (.int i :: .ref 1000300 :: st) im rm = evL X 635 [v0, v1, v2, v3] (.int (X.2 i.toNatClampNeg) :: st) (im) (rm) := evL_sld pm_m0 rfl d0_634 hk hi rfl
theorem d0_635 : decode code 635 = .ok (.invokevirtual 66, 3) := by decide +kernel
theorem s0_635 {X : Nat × (Nat → Int32)} {v0 v1 v2 v3 : Value} {a : Nat} {p1 : Int32} {p2 : Int32} {p3 : Int32} {im : IM} {rm : RM} (hk : kd a = 17) : evL X 635 [v0, v1, v2, v3] [.int p3, .int p2, .int p1, .ref a] im rm = (ev 52 0 [.ref a, .int p1, .int p2, .int p3] [] im rm).bind (fun r => evL X 638 [v0, v1, v2, v3] (r.1.toList ++ []) r.2.1 r.2.2) := evL_callV pm_m0 d0_635 l9_66 rfl pm_m52 (by decide) hk rfl ⟨rfl, rfl⟩ rfl rfl
theorem d0_638 : decode code 638 = .ok (.aload_n 2, 1) := by decide +kernel
theorem s0_638 {X : Nat × (Nat → Int32)} {v0 v1 v3 : Value} {l1 : Nat} {st : List Value} {im : IM} {rm : RM}  : evL X 638 [v0, v1, .ref l1, v3] st im rm = evL X 639 [v0, v1, .ref l1, v3] (.ref l1 :: st) (im) (rm) := evL_aload_n pm_m0 d0_638 rfl rfl
theorem d0_639 : decode code 639 = .ok (.aload_n 0, 1) := by decide +kernel
theorem s0_639 {X : Nat × (Nat → Int32)} {v1 v2 v3 : Value} {l1 : Nat} {st : List Value} {im : IM} {rm : RM}  : evL X 639 [.ref l1, v1, v2, v3] st im rm = evL X 640 [.ref l1, v1, v2, v3] (.ref l1 :: st) (im) (rm) := evL_aload_n pm_m0 d0_639 rfl rfl
theorem d0_640 : decode code 640 = .ok (.iload_n 3, 1) := by decide +kernel
theorem s0_640 {X : Nat × (Nat → Int32)} {v0 v1 v2 : Value} {l1 : Int32} {st : List Value} {im : IM} {rm : RM}  : evL X 640 [v0, v1, v2, .int l1] st im rm = evL X 641 [v0, v1, v2, .int l1] (.int l1 :: st) (im) (rm) := evL_iload_n pm_m0 d0_640 rfl rfl
theorem d0_641 : decode code 641 = .ok (.iconst 1, 1) := by decide +kernel
theorem s0_641 {X : Nat × (Nat → Int32)} {v0 v1 v2 v3 : Value}  {st : List Value} {im : IM} {rm : RM}  : evL X 641 [v0, v1, v2, v3] st im rm = evL X 642 [v0, v1, v2, v3] (.int (nI 1) :: st) (im) (rm) := evL_iconst pm_m0 d0_641 rfl rfl
theorem d0_642 : decode code 642 = .ok (.iadd, 1) := by decide +kernel
theorem s0_642 {X : Nat × (Nat → Int32)} {v0 v1 v2 v3 : Value} {x : Int32} {y : Int32} {st : List Value} {im : IM} {rm : RM}  : evL X 642 [v0, v1, v2, v3] (.int y :: .int x :: st) im rm = evL X 643 [v0, v1, v2, v3] (.int (x + y) :: st) (im) (rm) := evL_iadd pm_m0 d0_642 rfl
theorem d0_643 : decode code 643 = .ok (.iaload, 1) := by decide +kernel
theorem s0_643 {X : Nat × (Nat → Int32)} {v0 v1 v2 v3 : Value} {i : Int32} {st : List Value} {im : IM} {rm : RM} (hk : kd 1000300 = 99) (hi : pm_in i X.1 = true) : evL X 643 [v0, v1, v2, v3] (.int i :: .ref 1000300 :: st) im rm = evL X 644 [v0, v1, v2, v3] (.int (X.2 i.toNatClampNeg) :: st) (im) (rm) := evL_sld pm_m0 rfl d0_643 hk hi rfl
theorem d0_644 : decode code 644 = .ok (.aload_n 0, 1) := by decide +kernel
theorem s0_644 {X : Nat × (Nat → Int32)} {v1 v2 v3 : Value} {l1 : Nat} {st : List Value} {im : IM} {rm : RM}  : evL X 644 [.ref l1, v1, v2, v3] st im rm = evL X 645 [.ref l1, v1, v2, v3] (.ref l1 :: st) (im) (rm) := evL_aload_n pm_m0 d0_644 rfl rfl
theorem d0_645 : decode code 645 = .ok (.iload_n 3, 1) := by decide +kernel
theorem s0_645 {X : Nat × (Nat → Int32)} {v0 v1 v2 : Value} {l1 : Int32} {st : List Value} {im : IM} {rm : RM}  : evL X 645 [v0, v1, v2, .int l1] st im rm = evL X 646 [v0, v1, v2, .int l1] (.int l1 :: st) (im) (rm) := evL_iload_n pm_m0 d0_645 rfl rfl
theorem d0_646 : decode code 646 = .ok (.iconst 2, 1) := by decide +kernel
theorem s0_646 {X : Nat × (Nat → Int32)} {v0 v1 v2 v3 : Value}  {st : List Value} {im : IM} {rm : RM}  : evL X 646 [v0, v1, v2, v3] st im rm = evL X 647 [v0, v1, v2, v3] (.int (nI 2) :: st) (im) (rm) := evL_iconst pm_m0 d0_646 rfl rfl
theorem d0_647 : decode code 647 = .ok (.iadd, 1) := by decide +kernel
theorem s0_647 {X : Nat × (Nat → Int32)} {v0 v1 v2 v3 : Value} {x : Int32} {y : Int32} {st : List Value} {im : IM} {rm : RM}  : evL X 647 [v0, v1, v2, v3] (.int y :: .int x :: st) im rm = evL X 648 [v0, v1, v2, v3] (.int (x + y) :: st) (im) (rm) := evL_iadd pm_m0 d0_647 rfl
theorem d0_648 : decode code 648 = .ok (.iaload, 1) := by decide +kernel
theorem s0_648 {X : Nat × (Nat → Int32)} {v0 v1 v2 v3 : Value} {i : Int32} {st : List Value} {im : IM} {rm : RM} (hk : kd 1000300 = 99) (hi : pm_in i X.1 = true) : evL X 648 [v0, v1, v2, v3] (.int i :: .ref 1000300 :: st) im rm = evL X 649 [v0, v1, v2, v3] (.int (X.2 i.toNatClampNeg) :: st) (im) (rm) := evL_sld pm_m0 rfl d0_648 hk hi rfl
theorem d0_649 : decode code 649 = .ok (.aload_n 0, 1) := by decide +kernel
theorem s0_649 {X : Nat × (Nat → Int32)} {v1 v2 v3 : Value} {l1 : Nat} {st : List Value} {im : IM} {rm : RM}  : evL X 649 [.ref l1, v1, v2, v3] st im rm = evL X 650 [.ref l1, v1, v2, v3] (.ref l1 :: st) (im) (rm) := evL_aload_n pm_m0 d0_649 rfl rfl
theorem d0_650 : decode code 650 = .ok (.iload_n 3, 1) := by decide +kernel
theorem s0_650 {X : Nat × (Nat → Int32)} {v0 v1 v2 : Value} {l1 : Int32} {st : List Value} {im : IM} {rm : RM}  : evL X 650 [v0, v1, v2, .int l1] st im rm = evL X 651 [v0, v1, v2, .int l1] (.int l1 :: st) (im) (rm) := evL_iload_n pm_m0 d0_650 rfl rfl
theorem d0_651 : decode code 651 = .ok (.iconst 3, 1) := by decide +kernel
theorem s0_651 {X : Nat × (Nat → Int32)} {v0 v1 v2 v3 : Value}  {st : List Value} {im : IM} {rm : RM}  : evL X 651 [v0, v1, v2, v3] st im rm = evL X 652 [v0, v1, v2, v3] (.int (nI 3) :: st) (im) (rm) := evL_iconst pm_m0 d0_651 rfl rfl
theorem d0_652 : decode code 652 = .ok (.iadd, 1) := by decide +kernel
theorem s0_652 {X : Nat × (Nat → Int32)} {v0 v1 v2 v3 : Value} {x : Int32} {y : Int32} {st : List Value} {im : IM} {rm : RM}  : evL X 652 [v0, v1, v2, v3] (.int y :: .int x :: st) im rm = evL X 653 [v0, v1, v2, v3] (.int (x + y) :: st) (im) (rm) := evL_iadd pm_m0 d0_652 rfl
theorem d0_653 : decode code 653 = .ok (.iaload, 1) := by decide +kernel
theorem s0_653 {X : Nat × (Nat → Int32)} {v0 v1 v2 v3 : Value} {i : Int32} {st : List Value} {im : IM} {rm : RM} (hk : kd 1000300 = 99) (hi : pm_in i X.1 = true) : evL X 653 [v0, v1, v2, v3] (.int i :: .ref 1000300 :: st) im rm = evL X 654 [v0, v1, v2, v3] (.int (X.2 i.toNatClampNeg) :: st) (im) (rm) := evL_sld pm_m0 rfl d0_653 hk hi rfl
theorem d0_654 : decode code 654 = .ok (.invokevirtual 69, 3) := by decide +kernel
theorem s0_654 {X : Nat × (Nat → Int32)} {v0 v1 v2 v3 : Value} {a : Nat} {p1 : Int32} {p2 : Int32} {p3 : Int32} {r4 : Int32} {im : IM} {rm : RM} (hk : kd a = 18) : evL X 654 [v0, v1, v2, v3] [.int p3, .int p2, .int p1, .ref a, .int r4] im rm = (ev 137 0 [.ref a, .int p1, .int p2, .int p3] [] im rm).bind (fun r => evL X 657 [v0, v1, v2, v3] (r.1.toList ++ [.int r4]) r.2.1 r.2.2) := evL_callV pm_m0 d0_654 l9_69 rfl pm_m137 (by decide) hk rfl ⟨rfl, rfl⟩ rfl rfl
theorem d0_657 : decode code 657 = .ok (.if_icmp .eq 692, 3) := by decide +kernel
theorem s0_657 {X : Nat × (Nat → Int32)} {v0 v1 v2 v3 : Value} {x : Int32} {y : Int32} {st : List Value} {im : IM} {rm : RM} : evL X 657 [v0, v1, v2, v3] (.int y :: .int x :: st) im rm = if x = y then evL X 1349 [v0, v1, v2, v3] st im rm else evL X 660 [v0, v1, v2, v3] st im rm := evL_icmp_eq pm_m0 d0_657 rfl rfl rfl
theorem d0_660 : decode code 660 = .ok (.iconst 0, 1) := by decide +kernel
theorem s0_660 {X : Nat × (Nat → Int32)} {v0 v1 v2 v3 : Value}  {st : List Value} {im : IM} {rm : RM}  : evL X 660 [v0, v1, v2, v3] st im rm = evL X 661 [v0, v1, v2, v3] (.int (nI 0) :: st) (im) (rm) := evL_iconst pm_m0 d0_660 rfl rfl
theorem d0_661 : decode code 661 = .ok (.ireturn, 1) := by decide +kernel
theorem s0_661 {X : Nat × (Nat → Int32)} {v0 v1 v2 v3 : Value} {x : Int32} {im : IM} {rm : RM} (hx : x = 0 ∨ x = 1) : evL X 661 [v0, v1, v2, v3] [.int x] im rm = some (some (.int x), im, rm) := evL_zreturn pm_m0 d0_661 rfl hx (by decide)
theorem d0_662 : decode code 662 = .ok (.aload_n 1, 1) := by decide +kernel
theorem s0_662 {X : Nat × (Nat → Int32)} {v0 v2 v3 : Value} {l1 : Nat} {st : List Value} {im : IM} {rm : RM}  : evL X 662 [v0, .ref l1, v2, v3] st im rm = evL X 663 [v0, .ref l1, v2, v3] (.ref l1 :: st) (im) (rm) := evL_aload_n pm_m0 d0_662 rfl rfl
theorem d0_663 : decode code 663 = .ok (.aload_n 0, 1) := by decide +kernel
theorem s0_663 {X : Nat × (Nat → Int32)} {v1 v2 v3 : Value} {l1 : Nat} {st : List Value} {im : IM} {rm : RM}  : evL X 663 [.ref l1, v1, v2, v3] st im rm = evL X 664 [.ref l1, v1, v2, v3] (.ref l1 :: st) (im) (rm) := evL_aload_n pm_m0 d0_663 rfl rfl
theorem d0_664 : decode code 664 = .ok (.iload_n 3, 1) := by decide +kernel
theorem s0_664 {X : Nat × (Nat → Int32)} {v0 v1 v2 : Value} {l1 : Int32} {st : List Value} {im : IM} {rm : RM}  : evL X 664 [v0, v1, v2, .int l1] st im rm = evL X 665 [v0, v1, v2, .int l1] (.int l1 :: st) (im) (rm) := evL_iload_n pm_m0 d0_664 rfl rfl
theorem d0_665 : decode code 665 = .ok (.iconst 1, 1) := by decide +kernel
theorem s0_665 {X : Nat × (Nat → Int32)} {v0 v1 v2 v3 : Value}  {st : List Value} {im : IM} {rm : RM}  : evL X 665 [v0, v1, v2, v3] st im rm = evL X 666 [v0, v1, v2, v3] (.int (nI 1) :: st) (im) (rm) := evL_iconst pm_m0 d0_665 rfl rfl
theorem d0_666 : decode code 666 = .ok (.iadd, 1) := by decide +kernel
theorem s0_666 {X : Nat × (Nat → Int32)} {v0 v1 v2 v3 : Value} {x : Int32} {y : Int32} {st : List Value} {im : IM} {rm : RM}  : evL X 666 [v0, v1, v2, v3] (.int y :: .int x :: st) im rm = evL X 667 [v0, v1, v2, v3] (.int (x + y) :: st) (im) (rm) := evL_iadd pm_m0 d0_666 rfl
theorem d0_667 : decode code 667 = .ok (.iaload, 1) := by decide +kernel
theorem s0_667 {X : Nat × (Nat → Int32)} {v0 v1 v2 v3 : Value} {i : Int32} {st : List Value} {im : IM} {rm : RM} (hk : kd 1000300 = 99) (hi : pm_in i X.1 = true) : evL X 667 [v0, v1, v2, v3] (.int i :: .ref 1000300 :: st) im rm = evL X 668 [v0, v1, v2, v3] (.int (X.2 i.toNatClampNeg) :: st) (im) (rm) := evL_sld pm_m0 rfl d0_667 hk hi rfl
theorem d0_668 : decode code 668 = .ok (.invokevirtual 70, 3) := by decide +kernel
theorem s0_668 {X : Nat × (Nat → Int32)} {v0 v1 v2 v3 : Value} {a : Nat} {p1 : Int32} {im : IM} {rm : RM} (hk : kd a = 17) : evL X 668 [v0, v1, v2, v3] [.int p1, .ref a] im rm = (ev 53 0 [.ref a, .int p1] [] im rm).bind (fun r => evL X 671 [v0, v1, v2, v3] (r.1.toList ++ []) r.2.1 r.2.2) := evL_callV pm_m0 d0_668 l9_70 rfl pm_m53 (by decide) hk rfl ⟨rfl, rfl⟩ rfl rfl
theorem d0_671 : decode code 671 = .ok (.aload_n 2, 1) := by decide +kernel
theorem s0_671 {X : Nat × (Nat → Int32)} {v0 v1 v3 : Value} {l1 : Nat} {st : List Value} {im : IM} {rm : RM}  : evL X 671 [v0, v1, .ref l1, v3] st im rm = evL X 672 [v0, v1, .ref l1, v3] (.ref l1 :: st) (im) (rm) := evL_aload_n pm_m0 d0_671 rfl rfl
theorem d0_672 : decode code 672 = .ok (.aload_n 0, 1) := by decide +kernel
theorem s0_672 {X : Nat × (Nat → Int32)} {v1 v2 v3 : Value} {l1 : Nat} {st : List Value} {im : IM} {rm : RM}  : evL X 672 [.ref l1, v1, v2, v3] st im rm = evL X 673 [.ref l1, v1, v2, v3] (.ref l1 :: st) (im) (rm) := evL_aload_n pm_m0 d0_672 rfl rfl
theorem d0_673 : decode code 673 = .ok (.iload_n 3, 1) := by decide +kernel
theorem s0_673 {X : Nat × (Nat → Int32)} {v0 v1 v2 : Value} {l1 : Int32} {st : List Value} {im : IM} {rm : RM}  : evL X 673 [v0, v1, v2, .int l1] st im rm = evL X 674 [v0, v1, v2, .int l1] (.int l1 :: st) (im) (rm) := evL_iload_n pm_m0 d0_673 rfl rfl
theorem d0_674 : decode code 674 = .ok (.iconst 1, 1) := by decide +kernel
theorem s0_674 {X : Nat × (Nat → Int32)} {v0 v1 v2 v3 : Value}  {st : List Value} {im : IM} {rm : RM}  : evL X 674 [v0, v1, v2, v3] st im rm = evL X 675 [v0, v1, v2, v3] (.int (nI 1) :: st) (im) (rm) := evL_iconst pm_m0 d0_674 rfl rfl
theorem d0_675 : decode code 675 = .ok (.iadd, 1) := by decide +kernel
theorem s0_675 {X : Nat × (Nat → Int32)} {v0 v1 v2 v3 : Value} {x : Int32} {y : Int32} {st : List Value} {im : IM} {rm : RM}  : evL X 675 [v0, v1, v2, v3] (.int y :: .int x :: st) im rm = evL X 676 [v0, v1, v2, v3] (.int (x + y) :: st) (im) (rm) := evL_iadd pm_m0 d0_675 rfl
theorem d0_676 : decode code 676 = .ok (.iaload, 1) := by decide +kernel
theorem s0_676 {X : Nat × (Nat → Int32)} {v0 v1 v2 v3 : Value} {i : Int32} {st : List Value} {im : IM} {rm : RM} (hk : kd 1000300 = 99) (hi : pm_in i X.1 = true) : evL X 676 [v0, v1, v2, v3] (.int i :: .ref 1000300 :: st) im rm = evL X 677 [v0, v1, v2, v3] (.int (X.2 i.toNatClampNeg) :: st) (im) (rm) := evL_sld pm_m0 rfl d0_676 hk hi rfl
theorem d0_677 : decode code 677 = .ok (.invokevirtual 73, 3) := by decide +kernel
theorem s0_677 {X : Nat × (Nat → Int32)} {v0 v1 v2 v3 : Value} {a : Nat} {p1 : Int32} {r2 : Int32} {im : IM} {rm : RM} (hk : kd a = 18) : evL X 677 [v0, v1, v2, v3] [.int p1, .ref a, .int r2] im rm = (ev 140 0 [.ref a, .int p1] [] im rm).bind (fun r => evL X 680 [v0, v1, v2, v3] (r.1.toList ++ [.int r2]) r.2.1 r.2.2) := evL_callV pm_m0 d0_677 l9_73 rfl pm_m140 (by decide) hk rfl ⟨rfl, rfl⟩ rfl rfl
theorem d0_680 : decode code 680 = .ok (.if_icmp .eq 669, 3) := by decide +kernel
theorem s0_680 {X : Nat × (Nat → Int32)} {v0 v1 v2 v3 : Value} {x : Int32} {y : Int32} {st : List Value} {im : IM} {rm : RM} : evL X 680 [v0, v1, v2, v3] (.int y :: .int x :: st) im rm = if x = y then evL X 1349 [v0, v1, v2, v3] st im rm else evL X 683 [v0, v1, v2, v3] st im rm := evL_icmp_eq pm_m0 d0_680 rfl rfl rfl
theorem d0_683 : decode code 683 = .ok (.iconst 0, 1) := by decide +kernel
theorem s0_683 {X : Nat × (Nat → Int32)} {v0 v1 v2 v3 : Value}  {st : List Value} {im : IM} {rm : RM}  : evL X 683 [v0, v1, v2, v3] st im rm = evL X 684 [v0, v1, v2, v3] (.int (nI 0) :: st) (im) (rm) := evL_iconst pm_m0 d0_683 rfl rfl
theorem d0_684 : decode code 684 = .ok (.ireturn, 1) := by decide +kernel
theorem s0_684 {X : Nat × (Nat → Int32)} {v0 v1 v2 v3 : Value} {x : Int32} {im : IM} {rm : RM} (hx : x = 0 ∨ x = 1) : evL X 684 [v0, v1, v2, v3] [.int x] im rm = some (some (.int x), im, rm) := evL_zreturn pm_m0 d0_684 rfl hx (by decide)
theorem d0_685 : decode code 685 = .ok (.aload_n 1, 1) := by decide +kernel
theorem s0_685 {X : Nat × (Nat → Int32)} {v0 v2 v3 : Value} {l1 : Nat} {st : List Value} {im : IM} {rm : RM}  : evL X 685 [v0, .ref l1, v2, v3] st im rm = evL X 686 [v0, .ref l1, v2, v3] (.ref l1 :: st) (im) (rm) := evL_aload_n pm_m0 d0_685 rfl rfl
theorem d0_686 : decode code 686 = .ok (.aload_n 0, 1) := by decide +kernel
theorem s0_686 {X : Nat × (Nat → Int32)} {v1 v2 v3 : Value} {l1 : Nat} {st : List Value} {im : IM} {rm : RM}  : evL X 686 [.ref l1, v1, v2, v3] st im rm = evL X 687 [.ref l1, v1, v2, v3] (.ref l1 :: st) (im) (rm) := evL_aload_n pm_m0 d0_686 rfl rfl
theorem d0_687 : decode code 687 = .ok (.iload_n 3, 1) := by decide +kernel
theorem s0_687 {X : Nat × (Nat → Int32)} {v0 v1 v2 : Value} {l1 : Int32} {st : List Value} {im : IM} {rm : RM}  : evL X 687 [v0, v1, v2, .int l1] st im rm = evL X 688 [v0, v1, v2, .int l1] (.int l1 :: st) (im) (rm) := evL_iload_n pm_m0 d0_687 rfl rfl
theorem d0_688 : decode code 688 = .ok (.iconst 1, 1) := by decide +kernel
theorem s0_688 {X : Nat × (Nat → Int32)} {v0 v1 v2 v3 : Value}  {st : List Value} {im : IM} {rm : RM}  : evL X 688 [v0, v1, v2, v3] st im rm = evL X 689 [v0, v1, v2, v3] (.int (nI 1) :: st) (im) (rm) := evL_iconst pm_m0 d0_688 rfl rfl
theorem d0_689 : decode code 689 = .ok (.iadd, 1) := by decide +kernel
theorem s0_689 {X : Nat × (Nat → Int32)} {v0 v1 v2 v3 : Value} {x : Int32} {y : Int32} {st : List Value} {im : IM} {rm : RM}  : evL X 689 [v0, v1, v2, v3] (.int y :: .int x :: st) im rm = evL X 690 [v0, v1, v2, v3] (.int (x + y) :: st) (im) (rm) := evL_iadd pm_m0 d0_689 rfl
theorem d0_690 : decode code 690 = .ok (.iaload, 1) := by decide +kernel
theorem s0_690 {X : Nat × (Nat → Int32)} {v0 v1 v2 v3 : Value} {i : Int32} {st : List Value} {im : IM} {rm : RM} (hk : kd 1000300 = 99) (hi : pm_in i X.1 = true) : evL X 690 [v0, v1, v2, v3] (.int i :: .ref 1000300 :: st) im rm = evL X 691 [v0, v1, v2, v3] (.int (X.2 i.toNatClampNeg) :: st) (im) (rm) := evL_sld pm_m0 rfl d0_690 hk hi rfl
theorem d0_691 : decode code 691 = .ok (.invokevirtual 74, 3) := by decide +kernel
theorem s0_691 {X : Nat × (Nat → Int32)} {v0 v1 v2 v3 : Value} {a : Nat} {p1 : Int32} {im : IM} {rm : RM} (hk : kd a = 17) : evL X 691 [v0, v1, v2, v3] [.int p1, .ref a] im rm = (ev 54 0 [.ref a, .int p1] [] im rm).bind (fun r => evL X 694 [v0, v1, v2, v3] (r.1.toList ++ []) r.2.1 r.2.2) := evL_callV pm_m0 d0_691 l9_74 rfl pm_m54 (by decide) hk rfl ⟨rfl, rfl⟩ rfl rfl
theorem d0_694 : decode code 694 = .ok (.aload_n 2, 1) := by decide +kernel
theorem s0_694 {X : Nat × (Nat → Int32)} {v0 v1 v3 : Value} {l1 : Nat} {st : List Value} {im : IM} {rm : RM}  : evL X 694 [v0, v1, .ref l1, v3] st im rm = evL X 695 [v0, v1, .ref l1, v3] (.ref l1 :: st) (im) (rm) := evL_aload_n pm_m0 d0_694 rfl rfl
theorem d0_695 : decode code 695 = .ok (.aload_n 0, 1) := by decide +kernel
theorem s0_695 {X : Nat × (Nat → Int32)} {v1 v2 v3 : Value} {l1 : Nat} {st : List Value} {im : IM} {rm : RM}  : evL X 695 [.ref l1, v1, v2, v3] st im rm = evL X 696 [.ref l1, v1, v2, v3] (.ref l1 :: st) (im) (rm) := evL_aload_n pm_m0 d0_695 rfl rfl
theorem d0_696 : decode code 696 = .ok (.iload_n 3, 1) := by decide +kernel
theorem s0_696 {X : Nat × (Nat → Int32)} {v0 v1 v2 : Value} {l1 : Int32} {st : List Value} {im : IM} {rm : RM}  : evL X 696 [v0, v1, v2, .int l1] st im rm = evL X 697 [v0, v1, v2, .int l1] (.int l1 :: st) (im) (rm) := evL_iload_n pm_m0 d0_696 rfl rfl
theorem d0_697 : decode code 697 = .ok (.iconst 1, 1) := by decide +kernel
theorem s0_697 {X : Nat × (Nat → Int32)} {v0 v1 v2 v3 : Value}  {st : List Value} {im : IM} {rm : RM}  : evL X 697 [v0, v1, v2, v3] st im rm = evL X 698 [v0, v1, v2, v3] (.int (nI 1) :: st) (im) (rm) := evL_iconst pm_m0 d0_697 rfl rfl
theorem d0_698 : decode code 698 = .ok (.iadd, 1) := by decide +kernel
theorem s0_698 {X : Nat × (Nat → Int32)} {v0 v1 v2 v3 : Value} {x : Int32} {y : Int32} {st : List Value} {im : IM} {rm : RM}  : evL X 698 [v0, v1, v2, v3] (.int y :: .int x :: st) im rm = evL X 699 [v0, v1, v2, v3] (.int (x + y) :: st) (im) (rm) := evL_iadd pm_m0 d0_698 rfl
theorem d0_699 : decode code 699 = .ok (.iaload, 1) := by decide +kernel
theorem s0_699 {X : Nat × (Nat → Int32)} {v0 v1 v2 v3 : Value} {i : Int32} {st : List Value} {im : IM} {rm : RM} (hk : kd 1000300 = 99) (hi : pm_in i X.1 = true) : evL X 699 [v0, v1, v2, v3] (.int i :: .ref 1000300 :: st) im rm = evL X 700 [v0, v1, v2, v3] (.int (X.2 i.toNatClampNeg) :: st) (im) (rm) := evL_sld pm_m0 rfl d0_699 hk hi rfl
theorem d0_700 : decode code 700 = .ok (.invokevirtual 77, 3) := by decide +kernel
theorem s0_700 {X : Nat × (Nat → Int32)} {v0 v1 v2 v3 : Value} {a : Nat} {p1 : Int32} {r2 : Int32} {im : IM} {rm : RM} (hk : kd a = 18) : evL X 700 [v0, v1, v2, v3] [.int p1, .ref a, .int r2] im rm = (ev 141 0 [.ref a, .int p1] [] im rm).bind (fun r => evL X 703 [v0, v1, v2, v3] (r.1.toList ++ [.int r2]) r.2.1 r.2.2) := evL_callV pm_m0 d0_700 l9_77 rfl pm_m141 (by decide) hk rfl ⟨rfl, rfl⟩ rfl rfl
theorem d0_703 : decode code 703 = .ok (.if_icmp .eq 646, 3) := by decide +kernel
theorem s0_703 {X : Nat × (Nat → Int32)} {v0 v1 v2 v3 : Value} {x : Int32} {y : Int32} {st : List Value} {im : IM} {rm : RM} : evL X 703 [v0, v1, v2, v3] (.int y :: .int x :: st) im rm = if x = y then evL X 1349 [v0, v1, v2, v3] st im rm else evL X 706 [v0, v1, v2, v3] st im rm := evL_icmp_eq pm_m0 d0_703 rfl rfl rfl
theorem d0_706 : decode code 706 = .ok (.iconst 0, 1) := by decide +kernel
theorem s0_706 {X : Nat × (Nat → Int32)} {v0 v1 v2 v3 : Value}  {st : List Value} {im : IM} {rm : RM}  : evL X 706 [v0, v1, v2, v3] st im rm = evL X 707 [v0, v1, v2, v3] (.int (nI 0) :: st) (im) (rm) := evL_iconst pm_m0 d0_706 rfl rfl
theorem d0_707 : decode code 707 = .ok (.ireturn, 1) := by decide +kernel
theorem s0_707 {X : Nat × (Nat → Int32)} {v0 v1 v2 v3 : Value} {x : Int32} {im : IM} {rm : RM} (hx : x = 0 ∨ x = 1) : evL X 707 [v0, v1, v2, v3] [.int x] im rm = some (some (.int x), im, rm) := evL_zreturn pm_m0 d0_707 rfl hx (by decide)
theorem d0_708 : decode code 708 = .ok (.aload_n 1, 1) := by decide +kernel
theorem s0_708 {X : Nat × (Nat → Int32)} {v0 v2 v3 : Value} {l1 : Nat} {st : List Value} {im : IM} {rm : RM}  : evL X 708 [v0, .ref l1, v2, v3] st im rm = evL X 709 [v0, .ref l1, v2, v3] (.ref l1 :: st) (im) (rm) := evL_aload_n pm_m0 d0_708 rfl rfl
theorem d0_709 : decode code 709 = .ok (.invokevirtual 78, 3) := by decide +kernel
theorem s0_709 {X : Nat × (Nat → Int32)} {v0 v1 v2 v3 : Value} {a : Nat} {im : IM} {rm : RM} (hk : kd a = 17) : evL X 709 [v0, v1, v2, v3] [.ref a] im rm = (ev 55 0 [.ref a, pm_u, pm_u, pm_u, pm_u] [] im rm).bind (fun r => evL X 712 [v0, v1, v2, v3] (r.1.toList ++ []) r.2.1 r.2.2) := evL_callV pm_m0 d0_709 l9_78 rfl pm_m55 (by decide) hk rfl ⟨rfl, rfl⟩ rfl rfl
theorem d0_712 : decode code 712 = .ok (.aload_n 2, 1) := by decide +kernel
theorem s0_712 {X : Nat × (Nat → Int32)} {v0 v1 v3 : Value} {l1 : Nat} {st : List Value} {im : IM} {rm : RM}  : evL X 712 [v0, v1, .ref l1, v3] st im rm = evL X 713 [v0, v1, .ref l1, v3] (.ref l1 :: st) (im) (rm) := evL_aload_n pm_m0 d0_712 rfl rfl
theorem d0_713 : decode code 713 = .ok (.invokevirtual 81, 3) := by decide +kernel
theorem s0_713 {X : Nat × (Nat → Int32)} {v0 v1 v2 v3 : Value} {a : Nat} {r1 : Int32} {im : IM} {rm : RM} (hk : kd a = 18) : evL X 713 [v0, v1, v2, v3] [.ref a, .int r1] im rm = (ev 143 0 [.ref a, pm_u, pm_u, pm_u, pm_u, pm_u] [] im rm).bind (fun r => evL X 716 [v0, v1, v2, v3] (r.1.toList ++ [.int r1]) r.2.1 r.2.2) := evL_callV pm_m0 d0_713 l9_81 rfl pm_m143 (by decide) hk rfl ⟨rfl, rfl⟩ rfl rfl
theorem d0_716 : decode code 716 = .ok (.if_icmp .eq 633, 3) := by decide +kernel
theorem s0_716 {X : Nat × (Nat → Int32)} {v0 v1 v2 v3 : Value} {x : Int32} {y : Int32} {st : List Value} {im : IM} {rm : RM} : evL X 716 [v0, v1, v2, v3] (.int y :: .int x :: st) im rm = if x = y then evL X 1349 [v0, v1, v2, v3] st im rm else evL X 719 [v0, v1, v2, v3] st im rm := evL_icmp_eq pm_m0 d0_716 rfl rfl rfl
theorem d0_719 : decode code 719 = .ok (.iconst 0, 1) := by decide +kernel
theorem s0_719 {X : Nat × (Nat → Int32)} {v0 v1 v2 v3 : Value}  {st : List Value} {im : IM} {rm : RM}  : evL X 719 [v0, v1, v2, v3] st im rm = evL X 720 [v0, v1, v2, v3] (.int (nI 0) :: st) (im) (rm) := evL_iconst pm_m0 d0_719 rfl rfl
theorem d0_720 : decode code 720 = .ok (.ireturn, 1) := by decide +kernel
theorem s0_720 {X : Nat × (Nat → Int32)} {v0 v1 v2 v3 : Value} {x : Int32} {im : IM} {rm : RM} (hx : x = 0 ∨ x = 1) : evL X 720 [v0, v1, v2, v3] [.int x] im rm = some (some (.int x), im, rm) := evL_zreturn pm_m0 d0_720 rfl hx (by decide)
theorem d0_721 : decode code 721 = .ok (.aload_n 1, 1) := by decide +kernel
theorem s0_721 {X : Nat × (Nat → Int32)} {v0 v2 v3 : Value} {l1 : Nat} {st : List Value} {im : IM} {rm : RM}  : evL X 721 [v0, .ref l1, v2, v3] st im rm = evL X 722 [v0, .ref l1, v2, v3] (.ref l1 :: st) (im) (rm) := evL_aload_n pm_m0 d0_721 rfl rfl
theorem d0_722 : decode code 722 = .ok (.aload_n 0, 1) := by decide +kernel
theorem s0_722 {X : Nat × (Nat → Int32)} {v1 v2 v3 : Value} {l1 : Nat} {st : List Value} {im : IM} {rm : RM}  : evL X 722 [.ref l1, v1, v2, v3] st im rm = evL X 723 [.ref l1, v1, v2, v3] (.ref l1 :: st) (im) (rm) := evL_aload_n pm_m0 d0_722 rfl rfl
theorem d0_723 : decode code 723 = .ok (.iload_n 3, 1) := by decide +kernel
theorem s0_723 {X : Nat × (Nat → Int32)} {v0 v1 v2 : Value} {l1 : Int32} {st : List Value} {im : IM} {rm : RM}  : evL X 723 [v0, v1, v2, .int l1] st im rm = evL X 724 [v0, v1, v2, .int l1] (.int l1 :: st) (im) (rm) := evL_iload_n pm_m0 d0_723 rfl rfl
theorem d0_724 : decode code 724 = .ok (.iconst 1, 1) := by decide +kernel
theorem s0_724 {X : Nat × (Nat → Int32)} {v0 v1 v2 v3 : Value}  {st : List Value} {im : IM} {rm : RM}  : evL X 724 [v0, v1, v2, v3] st im rm = evL X 725 [v0, v1, v2, v3] (.int (nI 1) :: st) (im) (rm) := evL_iconst pm_m0 d0_724 rfl rfl
theorem d0_725 : decode code 725 = .ok (.iadd, 1) := by decide +kernel
theorem s0_725 {X : Nat × (Nat → Int32)} {v0 v1 v2 v3 : Value} {x : Int32} {y : Int32} {st : List Value} {im : IM} {rm : RM}  : evL X 725 [v0, v1, v2, v3] (.int y :: .int x :: st) im rm = evL X 726 [v0, v1, v2, v3] (.int (x + y) :: st) (im) (rm) := evL_iadd pm_m0 d0_725 rfl
theorem d0_726 : decode code 726 = .ok (.iaload, 1) := by decide +kernel
theorem s0_726 {X : Nat × (Nat → Int32)} {v0 v1 v2 v3 : Value} {i : Int32} {st : List Value} {im : IM} {rm : RM} (hk : kd 1000300 = 99) (hi : pm_in i X.1 = true) : evL X 726 [v0, v1, v2, v3] (.int i :: .ref 1000300 :: st) im rm = evL X 727 [v0, v1, v2, v3] (.int (X.2 i.toNatClampNeg) :: st) (im) (rm) := evL_sld pm_m0 rfl d0_726 hk hi rfl
theorem d0_727 : decode code 727 = .ok (.aload_n 0, 1) := by decide +kernel
theorem s0_727 {X : Nat × (Nat → Int32)} {v1 v2 v3 : Value} {l1 : Nat} {st : List Value} {im : IM} {rm : RM}  : evL X 727 [.ref l1, v1, v2, v3] st im rm = evL X 728 [.ref l1, v1, v2, v3] (.ref l1 :: st) (im) (rm) := evL_aload_n pm_m0 d0_727 rfl rfl
theorem d0_728 : decode code 728 = .ok (.iload_n 3, 1) := by decide +kernel
theorem s0_728 {X : Nat × (Nat → Int32)} {v0 v1 v2 : Value} {l1 : Int32} {st : List Value} {im : IM} {rm : RM}  : evL X 728 [v0, v1, v2, .int l1] st im rm = evL X 729 [v0, v1, v2, .int l1] (.int l1 :: st) (im) (rm) := evL_iload_n pm_m0 d0_728 rfl rfl
theorem d0_729 : decode code 729 = .ok (.iconst 2, 1) := by decide +kernel
theorem s0_729 {X : Nat × (Nat → Int32)} {v0 v1 v2 v3 : Value}  {st : List Value} {im : IM} {rm : RM}  : evL X 729 [v0, v1, v2, v3] st im rm = evL X 730 [v0, v1, v2, v3] (.int (nI 2) :: st) (im) (rm) := evL_iconst pm_m0 d0_729 rfl rfl
theorem d0_730 : decode code 730 = .ok (.iadd, 1) := by decide +kernel
theorem s0_730 {X : Nat × (Nat → Int32)} {v0 v1 v2 v3 : Value} {x : Int32} {y : Int32} {st : List Value} {im : IM} {rm : RM}  : evL X 730 [v0, v1, v2, v3] (.int y :: .int x :: st) im rm = evL X 731 [v0, v1, v2, v3] (.int (x + y) :: st) (im) (rm) := evL_iadd pm_m0 d0_730 rfl
theorem d0_731 : decode code 731 = .ok (.iaload, 1) := by decide +kernel
theorem s0_731 {X : Nat × (Nat → Int32)} {v0 v1 v2 v3 : Value} {i : Int32} {st : List Value} {im : IM} {rm : RM} (hk : kd 1000300 = 99) (hi : pm_in i X.1 = true) : evL X 731 [v0, v1, v2, v3] (.int i :: .ref 1000300 :: st) im rm = evL X 732 [v0, v1, v2, v3] (.int (X.2 i.toNatClampNeg) :: st) (im) (rm) := evL_sld pm_m0 rfl d0_731 hk hi rfl
theorem d0_732 : decode code 732 = .ok (.aload_n 0, 1) := by decide +kernel
theorem s0_732 {X : Nat × (Nat → Int32)} {v1 v2 v3 : Value} {l1 : Nat} {st : List Value} {im : IM} {rm : RM}  : evL X 732 [.ref l1, v1, v2, v3] st im rm = evL X 733 [.ref l1, v1, v2, v3] (.ref l1 :: st) (im) (rm) := evL_aload_n pm_m0 d0_732 rfl rfl
theorem d0_733 : decode code 733 = .ok (.iload_n 3, 1) := by decide +kernel
theorem s0_733 {X : Nat × (Nat → Int32)} {v0 v1 v2 : Value} {l1 : Int32} {st : List Value} {im : IM} {rm : RM}  : evL X 733 [v0, v1, v2, .int l1] st im rm = evL X 734 [v0, v1, v2, .int l1] (.int l1 :: st) (im) (rm) := evL_iload_n pm_m0 d0_733 rfl rfl
theorem d0_734 : decode code 734 = .ok (.iconst 3, 1) := by decide +kernel
theorem s0_734 {X : Nat × (Nat → Int32)} {v0 v1 v2 v3 : Value}  {st : List Value} {im : IM} {rm : RM}  : evL X 734 [v0, v1, v2, v3] st im rm = evL X 735 [v0, v1, v2, v3] (.int (nI 3) :: st) (im) (rm) := evL_iconst pm_m0 d0_734 rfl rfl
theorem d0_735 : decode code 735 = .ok (.iadd, 1) := by decide +kernel
theorem s0_735 {X : Nat × (Nat → Int32)} {v0 v1 v2 v3 : Value} {x : Int32} {y : Int32} {st : List Value} {im : IM} {rm : RM}  : evL X 735 [v0, v1, v2, v3] (.int y :: .int x :: st) im rm = evL X 736 [v0, v1, v2, v3] (.int (x + y) :: st) (im) (rm) := evL_iadd pm_m0 d0_735 rfl
theorem d0_736 : decode code 736 = .ok (.iaload, 1) := by decide +kernel
theorem s0_736 {X : Nat × (Nat → Int32)} {v0 v1 v2 v3 : Value} {i : Int32} {st : List Value} {im : IM} {rm : RM} (hk : kd 1000300 = 99) (hi : pm_in i X.1 = true) : evL X 736 [v0, v1, v2, v3] (.int i :: .ref 1000300 :: st) im rm = evL X 737 [v0, v1, v2, v3] (.int (X.2 i.toNatClampNeg) :: st) (im) (rm) := evL_sld pm_m0 rfl d0_736 hk hi rfl
theorem d0_737 : decode code 737 = .ok (.invokevirtual 82, 3) := by decide +kernel
theorem s0_737 {X : Nat × (Nat → Int32)} {v0 v1 v2 v3 : Value} {a : Nat} {p1 : Int32} {p2 : Int32} {p3 : Int32} {im : IM} {rm : RM} (hk : kd a = 17) : evL X 737 [v0, v1, v2, v3] [.int p3, .int p2, .int p1, .ref a] im rm = (ev 56 0 [.ref a, .int p1, .int p2, .int p3, pm_u, pm_u, pm_u] [] im rm).bind (fun r => evL X 740 [v0, v1, v2, v3] (r.1.toList ++ []) r.2.1 r.2.2) := evL_callV pm_m0 d0_737 l9_82 rfl pm_m56 (by decide) hk rfl ⟨rfl, rfl⟩ rfl rfl
theorem d0_740 : decode code 740 = .ok (.aload_n 2, 1) := by decide +kernel
theorem s0_740 {X : Nat × (Nat → Int32)} {v0 v1 v3 : Value} {l1 : Nat} {st : List Value} {im : IM} {rm : RM}  : evL X 740 [v0, v1, .ref l1, v3] st im rm = evL X 741 [v0, v1, .ref l1, v3] (.ref l1 :: st) (im) (rm) := evL_aload_n pm_m0 d0_740 rfl rfl
theorem d0_741 : decode code 741 = .ok (.aload_n 0, 1) := by decide +kernel
theorem s0_741 {X : Nat × (Nat → Int32)} {v1 v2 v3 : Value} {l1 : Nat} {st : List Value} {im : IM} {rm : RM}  : evL X 741 [.ref l1, v1, v2, v3] st im rm = evL X 742 [.ref l1, v1, v2, v3] (.ref l1 :: st) (im) (rm) := evL_aload_n pm_m0 d0_741 rfl rfl
theorem d0_742 : decode code 742 = .ok (.iload_n 3, 1) := by decide +kernel
theorem s0_742 {X : Nat × (Nat → Int32)} {v0 v1 v2 : Value} {l1 : Int32} {st : List Value} {im : IM} {rm : RM}  : evL X 742 [v0, v1, v2, .int l1] st im rm = evL X 743 [v0, v1, v2, .int l1] (.int l1 :: st) (im) (rm) := evL_iload_n pm_m0 d0_742 rfl rfl
theorem d0_743 : decode code 743 = .ok (.iconst 1, 1) := by decide +kernel
theorem s0_743 {X : Nat × (Nat → Int32)} {v0 v1 v2 v3 : Value}  {st : List Value} {im : IM} {rm : RM}  : evL X 743 [v0, v1, v2, v3] st im rm = evL X 744 [v0, v1, v2, v3] (.int (nI 1) :: st) (im) (rm) := evL_iconst pm_m0 d0_743 rfl rfl
theorem d0_744 : decode code 744 = .ok (.iadd, 1) := by decide +kernel
theorem s0_744 {X : Nat × (Nat → Int32)} {v0 v1 v2 v3 : Value} {x : Int32} {y : Int32} {st : List Value} {im : IM} {rm : RM}  : evL X 744 [v0, v1, v2, v3] (.int y :: .int x :: st) im rm = evL X 745 [v0, v1, v2, v3] (.int (x + y) :: st) (im) (rm) := evL_iadd pm_m0 d0_744 rfl
theorem d0_745 : decode code 745 = .ok (.iaload, 1) := by decide +kernel
theorem s0_745 {X : Nat × (Nat → Int32)} {v0 v1 v2 v3 : Value} {i : Int32} {st : List Value} {im : IM} {rm : RM} (hk : kd 1000300 = 99) (hi : pm_in i X.1 = true) : evL X 745 [v0, v1, v2, v3] (.int i :: .ref 1000300 :: st) im rm = evL X 746 [v0, v1, v2, v3] (.int (X.2 i.toNatClampNeg) :: st) (im) (rm) := evL_sld pm_m0 rfl d0_745 hk hi rfl
theorem d0_746 : decode code 746 = .ok (.aload_n 0, 1) := by decide +kernel
theorem s0_746 {X : Nat × (Nat → Int32)} {v1 v2 v3 : Value} {l1 : Nat} {st : List Value} {im : IM} {rm : RM}  : evL X 746 [.ref l1, v1, v2, v3] st im rm = evL X 747 [.ref l1, v1, v2, v3] (.ref l1 :: st) (im) (rm) := evL_aload_n pm_m0 d0_746 rfl rfl
theorem d0_747 : decode code 747 = .ok (.iload_n 3, 1) := by decide +kernel
theorem s0_747 {X : Nat × (Nat → Int32)} {v0 v1 v2 : Value} {l1 : Int32} {st : List Value} {im : IM} {rm : RM}  : evL X 747 [v0, v1, v2, .int l1] st im rm = evL X 748 [v0, v1, v2, .int l1] (.int l1 :: st) (im) (rm) := evL_iload_n pm_m0 d0_747 rfl rfl
theorem d0_748 : decode code 748 = .ok (.iconst 2, 1) := by decide +kernel
theorem s0_748 {X : Nat × (Nat → Int32)} {v0 v1 v2 v3 : Value}  {st : List Value} {im : IM} {rm : RM}  : evL X 748 [v0, v1, v2, v3] st im rm = evL X 749 [v0, v1, v2, v3] (.int (nI 2) :: st) (im) (rm) := evL_iconst pm_m0 d0_748 rfl rfl
theorem d0_749 : decode code 749 = .ok (.iadd, 1) := by decide +kernel
theorem s0_749 {X : Nat × (Nat → Int32)} {v0 v1 v2 v3 : Value} {x : Int32} {y : Int32} {st : List Value} {im : IM} {rm : RM}  : evL X 749 [v0, v1, v2, v3] (.int y :: .int x :: st) im rm = evL X 750 [v0, v1, v2, v3] (.int (x + y) :: st) (im) (rm) := evL_iadd pm_m0 d0_749 rfl
theorem d0_750 : decode code 750 = .ok (.iaload, 1) := by decide +kernel
theorem s0_750 {X : Nat × (Nat → Int32)} {v0 v1 v2 v3 : Value} {i : Int32} {st : List Value} {im : IM} {rm : RM} (hk : kd 1000300 = 99) (hi : pm_in i X.1 = true) : evL X 750 [v0, v1, v2, v3] (.int i :: .ref 1000300 :: st) im rm = evL X 751 [v0, v1, v2, v3] (.int (X.2 i.toNatClampNeg) :: st) (im) (rm) := evL_sld pm_m0 rfl d0_750 hk hi rfl
theorem d0_751 : decode code 751 = .ok (.aload_n 0, 1) := by decide +kernel
theorem s0_751 {X : Nat × (Nat → Int32)} {v1 v2 v3 : Value} {l1 : Nat} {st : List Value} {im : IM} {rm : RM}  : evL X 751 [.ref l1, v1, v2, v3] st im rm = evL X 752 [.ref l1, v1, v2, v3] (.ref l1 :: st) (im) (rm) := evL_aload_n pm_m0 d0_751 rfl rfl
theorem d0_752 : decode code 752 = .ok (.iload_n 3, 1) := by decide +kernel
theorem s0_752 {X : Nat × (Nat → Int32)} {v0 v1 v2 : Value} {l1 : Int32} {st : List Value} {im : IM} {rm : RM}  : evL X 752 [v0, v1, v2, .int l1] st im rm = evL X 753 [v0, v1, v2, .int l1] (.int l1 :: st) (im) (rm) := evL_iload_n pm_m0 d0_752 rfl rfl
theorem d0_753 : decode code 753 = .ok (.iconst 3, 1) := by decide +kernel
theorem s0_753 {X : Nat × (Nat → Int32)} {v0 v1 v2 v3 : Value}  {st : List Value} {im : IM} {rm : RM}  : evL X 753 [v0, v1, v2, v3] st im rm = evL X 754 [v0, v1, v2, v3] (.int (nI 3) :: st) (im) (rm) := evL_iconst pm_m0 d0_753 rfl rfl
theorem d0_754 : decode code 754 = .ok (.iadd, 1) := by decide +kernel
theorem s0_754 {X : Nat × (Nat → Int32)} {v0 v1 v2 v3 : Value} {x : Int32} {y : Int32} {st : List Value} {im : IM} {rm : RM}  : evL X 754 [v0, v1, v2, v3] (.int y :: .int x :: st) im rm = evL X 755 [v0, v1, v2, v3] (.int (x + y) :: st) (im) (rm) := evL_iadd pm_m0 d0_754 rfl
theorem d0_755 : decode code 755 = .ok (.iaload, 1) := by decide +kernel
theorem s0_755 {X : Nat × (Nat → Int32)} {v0 v1 v2 v3 : Value} {i : Int32} {st : List Value} {im : IM} {rm : RM} (hk : kd 1000300 = 99) (hi : pm_in i X.1 = true) : evL X 755 [v0, v1, v2, v3] (.int i :: .ref 1000300 :: st) im rm = evL X 756 [v0, v1, v2, v3] (.int (X.2 i.toNatClampNeg) :: st) (im) (rm) := evL_sld pm_m0 rfl d0_755 hk hi rfl
theorem d0_756 : decode code 756 = .ok (.invokevirtual 85, 3) := by decide +kernel
theorem s0_756 {X : Nat × (Nat → Int32)} {v0 v1 v2 v3 : Value} {a : Nat} {p1 : Int32} {p2 : Int32} {p3 : Int32} {r4 : Int32} {im : IM} {rm : RM} (hk : kd a = 18) : evL X 756 [v0, v1, v2, v3] [.int p3, .int p2, .int p1, .ref a, .int r4] im rm = (ev 144 0 [.ref a, .int p1, .int p2, .int p3, pm_u, pm_u, pm_u, pm_u, pm_u] [] im rm).bind (fun r => evL X 759 [v0, v1, v2, v3] (r.1.toList ++ [.int r4]) r.2.1 r.2.2) := evL_callV pm_m0 d0_756 l9_85 rfl pm_m144 (by decide) hk rfl ⟨rfl, rfl⟩ rfl rfl
theorem d0_759 : decode code 759 = .ok (.if_icmp .eq 590, 3) := by decide +kernel
theorem s0_759 {X : Nat × (Nat → Int32)} {v0 v1 v2 v3 : Value} {x : Int32} {y : Int32} {st : List Value} {im : IM} {rm : RM} : evL X 759 [v0, v1, v2, v3] (.int y :: .int x :: st) im rm = if x = y then evL X 1349 [v0, v1, v2, v3] st im rm else evL X 762 [v0, v1, v2, v3] st im rm := evL_icmp_eq pm_m0 d0_759 rfl rfl rfl
theorem d0_762 : decode code 762 = .ok (.iconst 0, 1) := by decide +kernel
theorem s0_762 {X : Nat × (Nat → Int32)} {v0 v1 v2 v3 : Value}  {st : List Value} {im : IM} {rm : RM}  : evL X 762 [v0, v1, v2, v3] st im rm = evL X 763 [v0, v1, v2, v3] (.int (nI 0) :: st) (im) (rm) := evL_iconst pm_m0 d0_762 rfl rfl
theorem d0_763 : decode code 763 = .ok (.ireturn, 1) := by decide +kernel
theorem s0_763 {X : Nat × (Nat → Int32)} {v0 v1 v2 v3 : Value} {x : Int32} {im : IM} {rm : RM} (hx : x = 0 ∨ x = 1) : evL X 763 [v0, v1, v2, v3] [.int x] im rm = some (some (.int x), im, rm) := evL_zreturn pm_m0 d0_763 rfl hx (by decide)
theorem d0_764 : decode code 764 = .ok (.aload_n 1, 1) := by decide +kernel
theorem s0_764 {X : Nat × (Nat → Int32)} {v0 v2 v3 : Value} {l1 : Nat} {st : List Value} {im : IM} {rm : RM}  : evL X 764 [v0, .ref l1, v2, v3] st im rm = evL X 765 [v0, .ref l1, v2, v3] (.ref l1 :: st) (im) (rm) := evL_aload_n pm_m0 d0_764 rfl rfl
theorem d0_765 : decode code 765 = .ok (.aload_n 0, 1) := by decide +kernel
theorem s0_765 {X : Nat × (Nat → Int32)} {v1 v2 v3 : Value} {l1 : Nat} {st : List Value} {im : IM} {rm : RM}  : evL X 765 [.ref l1, v1, v2, v3] st im rm = evL X 766 [.ref l1, v1, v2, v3] (.ref l1 :: st) (im) (rm) := evL_aload_n pm_m0 d0_765 rfl rfl
theorem d0_766 : decode code 766 = .ok (.iload_n 3, 1) := by decide +kernel
theorem s0_766 {X : Nat × (Nat → Int32)} {v0 v1 v2 : Value} {l1 : Int32} {st : List Value} {im : IM} {rm : RM}  : evL X 766 [v0, v1, v2, .int l1] st im rm = evL X 767 [v0, v1, v2, .int l1] (.int l1 :: st) (im) (rm) := evL_iload_n pm_m0 d0_766 rfl rfl
theorem d0_767 : decode code 767 = .ok (.iconst 1, 1) := by decide +kernel
theorem s0_767 {X : Nat × (Nat → Int32)} {v0 v1 v2 v3 : Value}  {st : List Value} {im : IM} {rm : RM}  : evL X 767 [v0, v1, v2, v3] st im rm = evL X 768 [v0, v1, v2, v3] (.int (nI 1) :: st) (im) (rm) := evL_iconst pm_m0 d0_767 rfl rfl
theorem d0_768 : decode code 768 = .ok (.iadd, 1) := by decide +kernel
theorem s0_768 {X : Nat × (Nat → Int32)} {v0 v1 v2 v3 : Value} {x : Int32} {y : Int32} {st : List Value} {im : IM} {rm : RM}  : evL X 768 [v0, v1, v2, v3] (.int y :: .int x :: st) im rm = evL X 769 [v0, v1, v2, v3] (.int (x + y) :: st) (im) (rm) := evL_iadd pm_m0 d0_768 rfl
theorem d0_769 : decode code 769 = .ok (.iaload, 1) := by decide +kernel
theorem s0_769 {X : Nat × (Nat → Int32)} {v0 v1 v2 v3 : Value} {i : Int32} {st : List Value} {im : IM} {rm : RM} (hk : kd 1000300 = 99) (hi : pm_in i X.1 = true) : evL X 769 [v0, v1, v2, v3] (.int i :: .ref 1000300 :: st) im rm = evL X 770 [v0, v1, v2, v3] (.int (X.2 i.toNatClampNeg) :: st) (im) (rm) := evL_sld pm_m0 rfl d0_769 hk hi rfl
theorem d0_770 : decode code 770 = .ok (.aload_n 0, 1) := by decide +kernel
theorem s0_770 {X : Nat × (Nat → Int32)} {v1 v2 v3 : Value} {l1 : Nat} {st : List Value} {im : IM} {rm : RM}  : evL X 770 [.ref l1, v1, v2, v3] st im rm = evL X 771 [.ref l1, v1, v2, v3] (.ref l1 :: st) (im) (rm) := evL_aload_n pm_m0 d0_770 rfl rfl
theorem d0_771 : decode code 771 = .ok (.iload_n 3, 1) := by decide +kernel
theorem s0_771 {X : Nat × (Nat → Int32)} {v0 v1 v2 : Value} {l1 : Int32} {st : List Value} {im : IM} {rm : RM}  : evL X 771 [v0, v1, v2, .int l1] st im rm = evL X 772 [v0, v1, v2, .int l1] (.int l1 :: st) (im) (rm) := evL_iload_n pm_m0 d0_771 rfl rfl
theorem d0_772 : decode code 772 = .ok (.iconst 2, 1) := by decide +kernel
theorem s0_772 {X : Nat × (Nat → Int32)} {v0 v1 v2 v3 : Value}  {st : List Value} {im : IM} {rm : RM}  : evL X 772 [v0, v1, v2, v3] st im rm = evL X 773 [v0, v1, v2, v3] (.int (nI 2) :: st) (im) (rm) := evL_iconst pm_m0 d0_772 rfl rfl
theorem d0_773 : decode code 773 = .ok (.iadd, 1) := by decide +kernel
theorem s0_773 {X : Nat × (Nat → Int32)} {v0 v1 v2 v3 : Value} {x : Int32} {y : Int32} {st : List Value} {im : IM} {rm : RM}  : evL X 773 [v0, v1, v2, v3] (.int y :: .int x :: st) im rm = evL X 774 [v0, v1, v2, v3] (.int (x + y) :: st) (im) (rm) := evL_iadd pm_m0 d0_773 rfl
theorem d0_774 : decode code 774 = .ok (.iaload, 1) := by decide +kernel
theorem s0_774 {X : Nat × (Nat → Int32)} {v0 v1 v2 v3 : Value} {i : Int32} {st : List Value} {im : IM} {rm : RM} (hk : kd 1000300 = 99) (hi : pm_in i X.1 = true) : evL X 774 [v0, v1, v2, v3] (.int i :: .ref 1000300 :: st) im rm = evL X 775 [v0, v1, v2, v3] (.int (X.2 i.toNatClampNeg) :: st) (im) (rm) := evL_sld pm_m0 rfl d0_774 hk hi rfl
theorem d0_775 : decode code 775 = .ok (.aload_n 0, 1) := by decide +kernel
theorem s0_775 {X : Nat × (Nat → Int32)} {v1 v2 v3 : Value} {l1 : Nat} {st : List Value} {im : IM} {rm : RM}  : evL X 775 [.ref l1, v1, v2, v3] st im rm = evL X 776 [.ref l1, v1, v2, v3] (.ref l1 :: st) (im) (rm) := evL_aload_n pm_m0 d0_775 rfl rfl
theorem d0_776 : decode code 776 = .ok (.iload_n 3, 1) := by decide +kernel
theorem s0_776 {X : Nat × (Nat → Int32)} {v0 v1 v2 : Value} {l1 : Int32} {st : List Value} {im : IM} {rm : RM}  : evL X 776 [v0, v1, v2, .int l1] st im rm = evL X 777 [v0, v1, v2, .int l1] (.int l1 :: st) (im) (rm) := evL_iload_n pm_m0 d0_776 rfl rfl
theorem d0_777 : decode code 777 = .ok (.iconst 3, 1) := by decide +kernel
theorem s0_777 {X : Nat × (Nat → Int32)} {v0 v1 v2 v3 : Value}  {st : List Value} {im : IM} {rm : RM}  : evL X 777 [v0, v1, v2, v3] st im rm = evL X 778 [v0, v1, v2, v3] (.int (nI 3) :: st) (im) (rm) := evL_iconst pm_m0 d0_777 rfl rfl
theorem d0_778 : decode code 778 = .ok (.iadd, 1) := by decide +kernel
theorem s0_778 {X : Nat × (Nat → Int32)} {v0 v1 v2 v3 : Value} {x : Int32} {y : Int32} {st : List Value} {im : IM} {rm : RM}  : evL X 778 [v0, v1, v2, v3] (.int y :: .int x :: st) im rm = evL X 779 [v0, v1, v2, v3] (.int (x + y) :: st) (im) (rm) := evL_iadd pm_m0 d0_778 rfl
theorem d0_779 : decode code 779 = .ok (.iaload, 1) := by decide +kernel
theorem s0_779 {X : Nat × (Nat → Int32)} {v0 v1 v2 v3 : Value} {i : Int32} {st : List Value} {im : IM} {rm : RM} (hk : kd 1000300 = 99) (hi : pm_in i X.1 = true) : evL X 779 [v0, v1, v2, v3] (.int i :: .ref 1000300 :: st) im rm = evL X 780 [v0, v1, v2, v3] (.int (X.2 i.toNatClampNeg) :: st) (im) (rm) := evL_sld pm_m0 rfl d0_779 hk hi rfl
theorem d0_780 : decode code 780 = .ok (.invokevirtual 86, 3) := by decide +kernel
theorem s0_780 {X : Nat × (Nat → Int32)} {v0 v1 v2 v3 : Value} {a : Nat} {p1 : Int32} {p2 : Int32} {p3 : Int32} {im : IM} {rm : RM} (hk : kd a = 17) : evL X 780 [v0, v1, v2, v3] [.int p3, .int p2, .int p1, .ref a] im rm = (ev 57 0 [.ref a, .int p1, .int p2, .int p3] [] im rm).bind (fun r => evL X 783 [v0, v1, v2, v3] (r.1.toList ++ []) r.2.1 r.2.2) := evL_callV pm_m0 d0_780 l9_86 rfl pm_m57 (by decide) hk rfl ⟨rfl, rfl⟩ rfl rfl
theorem d0_783 : decode code 783 = .ok (.aload_n 2, 1) := by decide +kernel
theorem s0_783 {X : Nat × (Nat → Int32)} {v0 v1 v3 : Value} {l1 : Nat} {st : List Value} {im : IM} {rm : RM}  : evL X 783 [v0, v1, .ref l1, v3] st im rm = evL X 784 [v0, v1, .ref l1, v3] (.ref l1 :: st) (im) (rm) := evL_aload_n pm_m0 d0_783 rfl rfl
theorem d0_784 : decode code 784 = .ok (.aload_n 0, 1) := by decide +kernel
theorem s0_784 {X : Nat × (Nat → Int32)} {v1 v2 v3 : Value} {l1 : Nat} {st : List Value} {im : IM} {rm : RM}  : evL X 784 [.ref l1, v1, v2, v3] st im rm = evL X 785 [.ref l1, v1, v2, v3] (.ref l1 :: st) (im) (rm) := evL_aload_n pm_m0 d0_784 rfl rfl
theorem d0_785 : decode code 785 = .ok (.iload_n 3, 1) := by decide +kernel
theorem s0_785 {X : Nat × (Nat → Int32)} {v0 v1 v2 : Value} {l1 : Int32} {st : List Value} {im : IM} {rm : RM}  : evL X 785 [v0, v1, v2, .int l1] st im rm = evL X 786 [v0, v1, v2, .int l1] (.int l1 :: st) (im) (rm) := evL_iload_n pm_m0 d0_785 rfl rfl
theorem d0_786 : decode code 786 = .ok (.iconst 1, 1) := by decide +kernel
theorem s0_786 {X : Nat × (Nat → Int32)} {v0 v1 v2 v3 : Value}  {st : List Value} {im : IM} {rm : RM}  : evL X 786 [v0, v1, v2, v3] st im rm = evL X 787 [v0, v1, v2, v3] (.int (nI 1) :: st) (im) (rm) := evL_iconst pm_m0 d0_786 rfl rfl
theorem d0_787 : decode code 787 = .ok (.iadd, 1) := by decide +kernel
theorem s0_787 {X : Nat × (Nat → Int32)} {v0 v1 v2 v3 : Value} {x : Int32} {y : Int32} {st : List Value} {im : IM} {rm : RM}  : evL X 787 [v0, v1, v2, v3] (.int y :: .int x :: st) im rm = evL X 788 [v0, v1, v2, v3] (.int (x + y) :: st) (im) (rm) := evL_iadd pm_m0 d0_787 rfl
theorem d0_788 : decode code 788 = .ok (.iaload, 1) := by decide +kernel
theorem s0_788 {X : Nat × (Nat → Int32)} {v0 v1 v2 v3 : Value} {i : Int32} {st : List Value} {im : IM} {rm : RM} (hk : kd 1000300 = 99) (hi : pm_in i X.1 = true) : evL X 788 [v0, v1, v2, v3] (.int i :: .ref 1000300 :: st) im rm = evL X 789 [v0, v1, v2, v3] (.int (X.2 i.toNatClampNeg) :: st) (im) (rm) := evL_sld pm_m0 rfl d0_788 hk hi rfl
theorem d0_789 : decode code 789 = .ok (.aload_n 0, 1) := by decide +kernel
theorem s0_789 {X : Nat × (Nat → Int32)} {v1 v2 v3 : Value} {l1 : Nat} {st : List Value} {im : IM} {rm : RM}  : evL X 789 [.ref l1, v1, v2, v3] st im rm = evL X 790 [.ref l1, v1, v2, v3] (.ref l1 :: st) (im) (rm) := evL_aload_n pm_m0 d0_789 rfl rfl
theorem d0_790 : decode code 790 = .ok (.iload_n 3, 1) := by decide +kernel
theorem s0_790 {X : Nat × (Nat → Int32)} {v0 v1 v2 : Value} {l1 : Int32} {st : List Value} {im : IM} {rm : RM}  : evL X 790 [v0, v1, v2, .int l1] st im rm = evL X 791 [v0, v1, v2, .int l1] (.int l1 :: st) (im) (rm) := evL_iload_n pm_m0 d0_790 rfl rfl
theorem d0_791 : decode code 791 = .ok (.iconst 2, 1) := by decide +kernel
theorem s0_791 {X : Nat × (Nat → Int32)} {v0 v1 v2 v3 : Value}  {st : List Value} {im : IM} {rm : RM}  : evL X 791 [v0, v1, v2, v3] st im rm = evL X 792 [v0, v1, v2, v3] (.int (nI 2) :: st) (im) (rm) := evL_iconst pm_m0 d0_791 rfl rfl
theorem d0_792 : decode code 792 = .ok (.iadd, 1) := by decide +kernel
theorem s0_792 {X : Nat × (Nat → Int32)} {v0 v1 v2 v3 : Value} {x : Int32} {y : Int32} {st : List Value} {im : IM} {rm : RM}  : evL X 792 [v0, v1, v2, v3] (.int y :: .int x :: st) im rm = evL X 793 [v0, v1, v2, v3] (.int (x + y) :: st) (im) (rm) := evL_iadd pm_m0 d0_792 rfl
theorem d0_793 : decode code 793 = .ok (.iaload, 1) := by decide +kernel
theorem s0_793 {X : Nat × (Nat → Int32)} {v0 v1 v2 v3 : Value} {i : Int32} {st : List Value} {im : IM} {rm : RM} (hk : kd 1000300 = 99) (hi : pm_in i X.1 = true) : evL X 793 [v0, v1, v2, v3] (.int i :: .ref 1000300 :: st) im rm = evL X 794 [v0, v1, v2, v3] (.int (X.2 i.toNatClampNeg) :: st) (im) (rm) := evL_sld pm_m0 rfl d0_793 hk hi rfl
theorem d0_794 : decode code 794 = .ok (.aload_n 0, 1) := by decide +kernel
theorem s0_794 {X : Nat × (Nat → Int32)} {v1 v2 v3 : Value} {l1 : Nat} {st : List Value} {im : IM} {rm : RM}  : evL X 794 [.ref l1, v1, v2, v3] st im rm = evL X 795 [.ref l1, v1, v2, v3] (.ref l1 :: st) (im) (rm) := evL_aload_n pm_m0 d0_794 rfl rfl
theorem d0_795 : decode code 795 = .ok (.iload_n 3, 1) := by decide +kernel
theorem s0_795 {X : Nat × (Nat → Int32)} {v0 v1 v2 : Value} {l1 : Int32} {st : List Value} {im : IM} {rm : RM}  : evL X 795 [v0, v1, v2, .int l1] st im rm = evL X 796 [v0, v1, v2, .int l1] (.int l1 :: st) (im) (rm) := evL_iload_n pm_m0 d0_795 rfl rfl
theorem d0_796 : decode code 796 = .ok (.iconst 3, 1) := by decide +kernel
theorem s0_796 {X : Nat × (Nat → Int32)} {v0 v1 v2 v3 : Value}  {st : List Value} {im : IM} {rm : RM}  : evL X 796 [v0, v1, v2, v3] st im rm = evL X 797 [v0, v1, v2, v3] (.int (nI 3) :: st) (im) (rm) := evL_iconst pm_m0 d0_796 rfl rfl
theorem d0_797 : decode code 797 = .ok (.iadd, 1) := by decide +kernel
theorem s0_797 {X : Nat × (Nat → Int32)} {v0 v1 v2 v3 : Value} {x : Int32} {y : Int32} {st : List Value} {im : IM} {rm : RM}  : evL X 797 [v0, v1, v2, v3] (.int y :: .int x :: st) im rm = evL X 798 [v0, v1, v2, v3] (.int (x + y) :: st) (im) (rm) := evL_iadd pm_m0 d0_797 rfl
theorem d0_798 : decode code 798 = .ok (.iaload, 1) := by decide +kernel
theorem s0_798 {X : Nat × (Nat → Int32)} {v0 v1 v2 v3 : Value} {i : Int32} {st : List Value} {im : IM} {rm : RM} (hk : kd 1000300 = 99) (hi : pm_in i X.1 = true) : evL X 798 [v0, v1, v2, v3] (.int i :: .ref 1000300 :: st) im rm = evL X 799 [v0, v1, v2, v3] (.int (X.2 i.toNatClampNeg) :: st) (im) (rm) := evL_sld pm_m0 rfl d0_798 hk hi rfl
theorem d0_799 : decode code 799 = .ok (.invokevirtual 89, 3) := by decide +kernel
theorem s0_799 {X : Nat × (Nat → Int32)} {v0 v1 v2 v3 : Value} {a : Nat} {p1 : Int32} {p2 : Int32} {p3 : Int32} {r4 : Int32} {im : IM} {rm : RM} (hk : kd a = 18) : evL X 799 [v0, v1, v2, v3] [.int p3, .int p2, .int p1, .ref a, .int r4] im rm = (ev 145 0 [.ref a, .int p1, .int p2, .int p3] [] im rm).bind (fun r => evL X 802 [v0, v1, v2, v3] (r.1.toList ++ [.int r4]) r.2.1 r.2.2) := evL_callV pm_m0 d0_799 l9_89 rfl pm_m145 (by decide) hk rfl ⟨rfl, rfl⟩ rfl rfl
theorem d0_802 : decode code 802 = .ok (.if_icmp .eq 547, 3) := by decide +kernel
theorem s0_802 {X : Nat × (Nat → Int32)} {v0 v1 v2 v3 : Value} {x : Int32} {y : Int32} {st : List Value} {im : IM} {rm : RM} : evL X 802 [v0, v1, v2, v3] (.int y :: .int x :: st) im rm = if x = y then evL X 1349 [v0, v1, v2, v3] st im rm else evL X 805 [v0, v1, v2, v3] st im rm := evL_icmp_eq pm_m0 d0_802 rfl rfl rfl
theorem d0_805 : decode code 805 = .ok (.iconst 0, 1) := by decide +kernel
theorem s0_805 {X : Nat × (Nat → Int32)} {v0 v1 v2 v3 : Value}  {st : List Value} {im : IM} {rm : RM}  : evL X 805 [v0, v1, v2, v3] st im rm = evL X 806 [v0, v1, v2, v3] (.int (nI 0) :: st) (im) (rm) := evL_iconst pm_m0 d0_805 rfl rfl
theorem d0_806 : decode code 806 = .ok (.ireturn, 1) := by decide +kernel
theorem s0_806 {X : Nat × (Nat → Int32)} {v0 v1 v2 v3 : Value} {x : Int32} {im : IM} {rm : RM} (hx : x = 0 ∨ x = 1) : evL X 806 [v0, v1, v2, v3] [.int x] im rm = some (some (.int x), im, rm) := evL_zreturn pm_m0 d0_806 rfl hx (by decide)
theorem d0_807 : decode code 807 = .ok (.aload_n 1, 1) := by decide +kernel
theorem s0_807 {X : Nat × (Nat → Int32)} {v0 v2 v3 : Value} {l1 : Nat} {st : List Value} {im : IM} {rm : RM}  : evL X 807 [v0, .ref l1, v2, v3] st im rm = evL X 808 [v0, .ref l1, v2, v3] (.ref l1 :: st) (im) (rm) := evL_aload_n pm_m0 d0_807 rfl rfl
theorem d0_808 : decode code 808 = .ok (.invokevirtual 90, 3) := by decide +kernel
theorem s0_808 {X : Nat × (Nat → Int32)} {v0 v1 v2 v3 : Value} {a : Nat} {im : IM} {rm : RM} (hk : kd a = 17) : evL X 808 [v0, v1, v2, v3] [.ref a] im rm = (ev 58 0 [.ref a, pm_u, pm_u] [] im rm).bind (fun r => evL X 811 [v0, v1, v2, v3] (r.1.toList ++ []) r.2.1 r.2.2) := evL_callV pm_m0 d0_808 l9_90 rfl pm_m58 (by decide) hk rfl ⟨rfl, rfl⟩ rfl rfl
theorem d0_811 : decode code 811 = .ok (.aload_n 2, 1) := by decide +kernel
theorem s0_811 {X : Nat × (Nat → Int32)} {v0 v1 v3 : Value} {l1 : Nat} {st : List Value} {im : IM} {rm : RM}  : evL X 811 [v0, v1, .ref l1, v3] st im rm = evL X 812 [v0, v1, .ref l1, v3] (.ref l1 :: st) (im) (rm) := evL_aload_n pm_m0 d0_811 rfl rfl
theorem d0_812 : decode code 812 = .ok (.invokevirtual 93, 3) := by decide +kernel
theorem s0_812 {X : Nat × (Nat → Int32)} {v0 v1 v2 v3 : Value} {a : Nat} {r1 : Int32} {im : IM} {rm : RM} (hk : kd a = 18) : evL X 812 [v0, v1, v2, v3] [.ref a, .int r1] im rm = (ev 148 0 [.ref a] [] im rm).bind (fun r => evL X 815 [v0, v1, v2, v3] (r.1.toList ++ [.int r1]) r.2.1 r.2.2) := evL_callV pm_m0 d0_812 l9_93 rfl pm_m148 (by decide) hk rfl ⟨rfl, rfl⟩ rfl rfl
theorem d0_815 : decode code 815 = .ok (.if_icmp .eq 534, 3) := by decide +kernel
theorem s0_815 {X : Nat × (Nat → Int32)} {v0 v1 v2 v3 : Value} {x : Int32} {y : Int32} {st : List Value} {im : IM} {rm : RM} : evL X 815 [v0, v1, v2, v3] (.int y :: .int x :: st) im rm = if x = y then evL X 1349 [v0, v1, v2, v3] st im rm else evL X 818 [v0, v1, v2, v3] st im rm := evL_icmp_eq pm_m0 d0_815 rfl rfl rfl
theorem d0_818 : decode code 818 = .ok (.iconst 0, 1) := by decide +kernel
theorem s0_818 {X : Nat × (Nat → Int32)} {v0 v1 v2 v3 : Value}  {st : List Value} {im : IM} {rm : RM}  : evL X 818 [v0, v1, v2, v3] st im rm = evL X 819 [v0, v1, v2, v3] (.int (nI 0) :: st) (im) (rm) := evL_iconst pm_m0 d0_818 rfl rfl
theorem d0_819 : decode code 819 = .ok (.ireturn, 1) := by decide +kernel
theorem s0_819 {X : Nat × (Nat → Int32)} {v0 v1 v2 v3 : Value} {x : Int32} {im : IM} {rm : RM} (hx : x = 0 ∨ x = 1) : evL X 819 [v0, v1, v2, v3] [.int x] im rm = some (some (.int x), im, rm) := evL_zreturn pm_m0 d0_819 rfl hx (by decide)
theorem d0_820 : decode code 820 = .ok (.aload_n 1, 1) := by decide +kernel
theorem s0_820 {X : Nat × (Nat → Int32)} {v0 v2 v3 : Value} {l1 : Nat} {st : List Value} {im : IM} {rm : RM}  : evL X 820 [v0, .ref l1, v2, v3] st im rm = evL X 821 [v0, .ref l1, v2, v3] (.ref l1 :: st) (im) (rm) := evL_aload_n pm_m0 d0_820 rfl rfl
theorem d0_821 : decode code 821 = .ok (.aload_n 0, 1) := by decide +kernel
theorem s0_821 {X : Nat × (Nat → Int32)} {v1 v2 v3 : Value} {l1 : Nat} {st : List Value} {im : IM} {rm : RM}  : evL X 821 [.ref l1, v1, v2, v3] st im rm = evL X 822 [.ref l1, v1, v2, v3] (.ref l1 :: st) (im) (rm) := evL_aload_n pm_m0 d0_821 rfl rfl
theorem d0_822 : decode code 822 = .ok (.iload_n 3, 1) := by decide +kernel
theorem s0_822 {X : Nat × (Nat → Int32)} {v0 v1 v2 : Value} {l1 : Int32} {st : List Value} {im : IM} {rm : RM}  : evL X 822 [v0, v1, v2, .int l1] st im rm = evL X 823 [v0, v1, v2, .int l1] (.int l1 :: st) (im) (rm) := evL_iload_n pm_m0 d0_822 rfl rfl
theorem d0_823 : decode code 823 = .ok (.iconst 1, 1) := by decide +kernel
theorem s0_823 {X : Nat × (Nat → Int32)} {v0 v1 v2 v3 : Value}  {st : List Value} {im : IM} {rm : RM}  : evL X 823 [v0, v1, v2, v3] st im rm = evL X 824 [v0, v1, v2, v3] (.int (nI 1) :: st) (im) (rm) := evL_iconst pm_m0 d0_823 rfl rfl
theorem d0_824 : decode code 824 = .ok (.iadd, 1) := by decide +kernel
theorem s0_824 {X : Nat × (Nat → Int32)} {v0 v1 v2 v3 : Value} {x : Int32} {y : Int32} {st : List Value} {im : IM} {rm : RM}  : evL X 824 [v0, v1, v2, v3] (.int y :: .int x :: st) im rm = evL X 825 [v0, v1, v2, v3] (.int (x + y) :: st) (im) (rm) := evL_iadd pm_m0 d0_824 rfl
theorem d0_825 : decode code 825 = .ok (.iaload, 1) := by decide +kernel
theorem s0_825 {X : Nat × (Nat → Int32)} {v0 v1 v2 v3 : Value} {i : Int32} {st : List Value} {im : IM} {rm : RM} (hk : kd 1000300 = 99) (hi : pm_in i X.1 = true) : evL X 825 [v0, v1, v2, v3] (.int i :: .ref 1000300 :: st) im rm = evL X 826 [v0, v1, v2, v3] (.int (X.2 i.toNatClampNeg) :: st) (im) (rm) := evL_sld pm_m0 rfl d0_825 hk hi rfl
theorem d0_826 : decode code 826 = .ok (.invokevirtual 94, 3) := by decide +kernel
theorem s0_826 {X : Nat × (Nat → Int32)} {v0 v1 v2 v3 : Value} {a : Nat} {p1 : Int32} {im : IM} {rm : RM} (hk : kd a = 17) : evL X 826 [v0, v1, v2, v3] [.int p1, .ref a] im rm = (ev 59 0 [.ref a, .int p1, pm_u, pm_u, pm_u, pm_u, pm_u] [] im rm).bind (fun r => evL X 829 [v0, v1, v2, v3] (r.1.toList ++ []) r.2.1 r.2.2) := evL_callV pm_m0 d0_826 l9_94 rfl pm_m59 (by decide) hk rfl ⟨rfl, rfl⟩ rfl rfl
theorem d0_829 : decode code 829 = .ok (.aload_n 2, 1) := by decide +kernel
theorem s0_829 {X : Nat × (Nat → Int32)} {v0 v1 v3 : Value} {l1 : Nat} {st : List Value} {im : IM} {rm : RM}  : evL X 829 [v0, v1, .ref l1, v3] st im rm = evL X 830 [v0, v1, .ref l1, v3] (.ref l1 :: st) (im) (rm) := evL_aload_n pm_m0 d0_829 rfl rfl
theorem d0_830 : decode code 830 = .ok (.aload_n 0, 1) := by decide +kernel
theorem s0_830 {X : Nat × (Nat → Int32)} {v1 v2 v3 : Value} {l1 : Nat} {st : List Value} {im : IM} {rm : RM}  : evL X 830 [.ref l1, v1, v2, v3] st im rm = evL X 831 [.ref l1, v1, v2, v3] (.ref l1 :: st) (im) (rm) := evL_aload_n pm_m0 d0_830 rfl rfl
theorem d0_831 : decode code 831 = .ok (.iload_n 3, 1) := by decide +kernel
theorem s0_831 {X : Nat × (Nat → Int32)} {v0 v1 v2 : Value} {l1 : Int32} {st : List Value} {im : IM} {rm : RM}  : evL X 831 [v0, v1, v2, .int l1] st im rm = evL X 832 [v0, v1, v2, .int l1] (.int l1 :: st) (im) (rm) := evL_iload_n pm_m0 d0_831 rfl rfl
theorem d0_832 : decode code 832 = .ok (.iconst 1, 1) := by decide +kernel
theorem s0_832 {X : Nat × (Nat → Int32)} {v0 v1 v2 v3 : Value}  {st : List Value} {im : IM} {rm : RM}  : evL X 832 [v0, v1, v2, v3] st im rm = evL X 833 [v0, v1, v2, v3] (.int (nI 1) :: st) (im) (rm) := evL_iconst pm_m0 d0_832 rfl rfl
theorem d0_833 : decode code 833 = .ok (.iadd, 1) := by decide +kernel
theorem s0_833 {X : Nat × (Nat → Int32)} {v0 v1 v2 v3 : Value} {x : Int32} {y : Int32} {st : List Value} {im : IM} {rm : RM}  : evL X 833 [v0, v1, v2, v3] (.int y :: .int x :: st) im rm = evL X 834 [v0, v1, v2, v3] (.int (x + y) :: st) (im) (rm) := evL_iadd pm_m0 d0_833 rfl
theorem d0_834 : decode code 834 = .ok (.iaload, 1) := by decide +kernel
theorem s0_834 {X : Nat × (Nat → Int32)} {v0 v1 v2 v3 : Value} {i : Int32} {st : List Value} {im : IM} {rm : RM} (hk : kd 1000300 = 99) (hi : pm_in i X.1 = true) : evL X 834 [v0, v1, v2, v3] (.int i :: .ref 1000300 :: st) im rm = evL X 835 [v0, v1, v2, v3] (.int (X.2 i.toNatClampNeg) :: st) (im) (rm) := evL_sld pm_m0 rfl d0_834 hk hi rfl
theorem d0_835 : decode code 835 = .ok (.invokevirtual 97, 3) := by decide +kernel
theorem s0_835 {X : Nat × (Nat → Int32)} {v0 v1 v2 v3 : Value} {a : Nat} {p1 : Int32} {r2 : Int32} {im : IM} {rm : RM} (hk : kd a = 18) : evL X 835 [v0, v1, v2, v3] [.int p1, .ref a, .int r2] im rm = (ev 150 0 [.ref a, .int p1, pm_u, pm_u, pm_u, pm_u, pm_u] [] im rm).bind (fun r => evL X 838 [v0, v1, v2, v3] (r.1.toList ++ [.int r2]) r.2.1 r.2.2) := evL_callV pm_m0 d0_835 l9_97 rfl pm_m150 (by decide) hk rfl ⟨rfl, rfl⟩ rfl rfl
theorem d0_838 : decode code 838 = .ok (.if_icmp .eq 511, 3) := by decide +kernel
theorem s0_838 {X : Nat × (Nat → Int32)} {v0 v1 v2 v3 : Value} {x : Int32} {y : Int32} {st : List Value} {im : IM} {rm : RM} : evL X 838 [v0, v1, v2, v3] (.int y :: .int x :: st) im rm = if x = y then evL X 1349 [v0, v1, v2, v3] st im rm else evL X 841 [v0, v1, v2, v3] st im rm := evL_icmp_eq pm_m0 d0_838 rfl rfl rfl
theorem d0_841 : decode code 841 = .ok (.iconst 0, 1) := by decide +kernel
theorem s0_841 {X : Nat × (Nat → Int32)} {v0 v1 v2 v3 : Value}  {st : List Value} {im : IM} {rm : RM}  : evL X 841 [v0, v1, v2, v3] st im rm = evL X 842 [v0, v1, v2, v3] (.int (nI 0) :: st) (im) (rm) := evL_iconst pm_m0 d0_841 rfl rfl
theorem d0_842 : decode code 842 = .ok (.ireturn, 1) := by decide +kernel
theorem s0_842 {X : Nat × (Nat → Int32)} {v0 v1 v2 v3 : Value} {x : Int32} {im : IM} {rm : RM} (hx : x = 0 ∨ x = 1) : evL X 842 [v0, v1, v2, v3] [.int x] im rm = some (some (.int x), im, rm) := evL_zreturn pm_m0 d0_842 rfl hx (by decide)
theorem d0_843 : decode code 843 = .ok (.aload_n 1, 1) := by decide +kernel
theorem s0_843 {X : Nat × (Nat → Int32)} {v0 v2 v3 : Value} {l1 : Nat} {st : List Value} {im : IM} {rm : RM}  : evL X 843 [v0, .ref l1, v2, v3] st im rm = evL X 844 [v0, .ref l1, v2, v3] (.ref l1 :: st) (im) (rm) := evL_aload_n pm_m0 d0_843 rfl rfl
theorem d0_844 : decode code 844 = .ok (.aload_n 0, 1) := by decide +kernel
theorem s0_844 {X : Nat × (Nat → Int32)} {v1 v2 v3 : Value} {l1 : Nat} {st : List Value} {im : IM} {rm : RM}  : evL X 844 [.ref l1, v1, v2, v3] st im rm = evL X 845 [.ref l1, v1, v2, v3] (.ref l1 :: st) (im) (rm) := evL_aload_n pm_m0 d0_844 rfl rfl
theorem d0_845 : decode code 845 = .ok (.iload_n 3, 1) := by decide +kernel
theorem s0_845 {X : Nat × (Nat → Int32)} {v0 v1 v2 : Value} {l1 : Int32} {st : List Value} {im : IM} {rm : RM}  : evL X 845 [v0, v1, v2, .int l1] st im rm = evL X 846 [v0, v1, v2, .int l1] (.int l1 :: st) (im) (rm) := evL_iload_n pm_m0 d0_845 rfl rfl
theorem d0_846 : decode code 846 = .ok (.iconst 1, 1) := by decide +kernel
theorem s0_846 {X : Nat × (Nat → Int32)} {v0 v1 v2 v3 : Value}  {st : List Value} {im : IM} {rm : RM}  : evL X 846 [v0, v1, v2, v3] st im rm = evL X 847 [v0, v1, v2, v3] (.int (nI 1) :: st) (im) (rm) := evL_iconst pm_m0 d0_846 rfl rfl
theorem d0_847 : decode code 847 = .ok (.iadd, 1) := by decide +kernel
theorem s0_847 {X : Nat × (Nat → Int32)} {v0 v1 v2 v3 : Value} {x : Int32} {y : Int32} {st : List Value} {im : IM} {rm : RM}  : evL X 847 [v0, v1, v2, v3] (.int y :: .int x :: st) im rm = evL X 848 [v0, v1, v2, v3] (.int (x + y) :: st) (im) (rm) := evL_iadd pm_m0 d0_847 rfl
theorem d0_848 : decode code 848 = .ok (.iaload, 1) := by decide +kernel
theorem s0_848 {X : Nat × (Nat → Int32)} {v0 v1 v2 v3 : Value} {i : Int32} {st : List Value} {im : IM} {rm : RM} (hk : kd 1000300 = 99) (hi : pm_in i X.1 = true) : evL X 848 [v0, v1, v2, v3] (.int i :: .ref 1000300 :: st) im rm = evL X 849 [v0, v1, v2, v3] (.int (X.2 i.toNatClampNeg) :: st) (im) (rm) := evL_sld pm_m0 rfl d0_848 hk hi rfl
theorem d0_849 : decode code 849 = .ok (.aload_n 0, 1) := by decide +kernel
theorem s0_849 {X : Nat × (Nat → Int32)} {v1 v2 v3 : Value} {l1 : Nat} {st : List Value} {im : IM} {rm : RM}  : evL X 849 [.ref l1, v1, v2, v3] st im rm = evL X 850 [.ref l1, v1, v2, v3] (.ref l1 :: st) (im) (rm) := evL_aload_n pm_m0 d0_849 rfl rfl
theorem d0_850 : decode code 850 = .ok (.iload_n 3, 1) := by decide +kernel
theorem s0_850 {X : Nat × (Nat → Int32)} {v0 v1 v2 : Value} {l1 : Int32} {st : List Value} {im : IM} {rm : RM}  : evL X 850 [v0, v1, v2, .int l1] st im rm = evL X 851 [v0, v1, v2, .int l1] (.int l1 :: st) (im) (rm) := evL_iload_n pm_m0 d0_850 rfl rfl
theorem d0_851 : decode code 851 = .ok (.iconst 2, 1) := by decide +kernel
theorem s0_851 {X : Nat × (Nat → Int32)} {v0 v1 v2 v3 : Value}  {st : List Value} {im : IM} {rm : RM}  : evL X 851 [v0, v1, v2, v3] st im rm = evL X 852 [v0, v1, v2, v3] (.int (nI 2) :: st) (im) (rm) := evL_iconst pm_m0 d0_851 rfl rfl
theorem d0_852 : decode code 852 = .ok (.iadd, 1) := by decide +kernel
theorem s0_852 {X : Nat × (Nat → Int32)} {v0 v1 v2 v3 : Value} {x : Int32} {y : Int32} {st : List Value} {im : IM} {rm : RM}  : evL X 852 [v0, v1, v2, v3] (.int y :: .int x :: st) im rm = evL X 853 [v0, v1, v2, v3] (.int (x + y) :: st) (im) (rm) := evL_iadd pm_m0 d0_852 rfl
theorem d0_853 : decode code 853 = .ok (.iaload, 1) := by decide +kernel
theorem s0_853 {X : Nat × (Nat → Int32)} {v0 v1 v2 v3 : Value} {i : Int32} {st : List Value} {im : IM} {rm : RM} (hk : kd 1000300 = 99) (hi : pm_in i X.1 = true) : evL X 853 [v0, v1, v2, v3] (.int i :: .ref 1000300 :: st) im rm = evL X 854 [v0, v1, v2, v3] (.int (X.2 i.toNatClampNeg) :: st) (im) (rm) := evL_sld pm_m0 rfl d0_853 hk hi rfl
theorem d0_854 : decode code 854 = .ok (.invokevirtual 98, 3) := by decide +kernel
theorem s0_854 {X : Nat × (Nat → Int32)} {v0 v1 v2 v3 : Value} {a : Nat} {p1 : Int32} {p2 : Int32} {im : IM} {rm : RM} (hk : kd a = 17) : evL X 854 [v0, v1, v2, v3] [.int p2, .int p1, .ref a] im rm = (ev 60 0 [.ref a, .int p1, .int p2] [] im rm).bind (fun r => evL X 857 [v0, v1, v2, v3] (r.1.toList ++ []) r.2.1 r.2.2) := evL_callV pm_m0 d0_854 l9_98 rfl pm_m60 (by decide) hk rfl ⟨rfl, rfl⟩ rfl rfl
theorem d0_857 : decode code 857 = .ok (.aload_n 2, 1) := by decide +kernel
theorem s0_857 {X : Nat × (Nat → Int32)} {v0 v1 v3 : Value} {l1 : Nat} {st : List Value} {im : IM} {rm : RM}  : evL X 857 [v0, v1, .ref l1, v3] st im rm = evL X 858 [v0, v1, .ref l1, v3] (.ref l1 :: st) (im) (rm) := evL_aload_n pm_m0 d0_857 rfl rfl
theorem d0_858 : decode code 858 = .ok (.aload_n 0, 1) := by decide +kernel
theorem s0_858 {X : Nat × (Nat → Int32)} {v1 v2 v3 : Value} {l1 : Nat} {st : List Value} {im : IM} {rm : RM}  : evL X 858 [.ref l1, v1, v2, v3] st im rm = evL X 859 [.ref l1, v1, v2, v3] (.ref l1 :: st) (im) (rm) := evL_aload_n pm_m0 d0_858 rfl rfl
theorem d0_859 : decode code 859 = .ok (.iload_n 3, 1) := by decide +kernel
theorem s0_859 {X : Nat × (Nat → Int32)} {v0 v1 v2 : Value} {l1 : Int32} {st : List Value} {im : IM} {rm : RM}  : evL X 859 [v0, v1, v2, .int l1] st im rm = evL X 860 [v0, v1, v2, .int l1] (.int l1 :: st) (im) (rm) := evL_iload_n pm_m0 d0_859 rfl rfl
theorem d0_860 : decode code 860 = .ok (.iconst 1, 1) := by decide +kernel
theorem s0_860 {X : Nat × (Nat → Int32)} {v0 v1 v2 v3 : Value}  {st : List Value} {im : IM} {rm : RM}  : evL X 860 [v0, v1, v2, v3] st im rm = evL X 861 [v0, v1, v2, v3] (.int (nI 1) :: st) (im) (rm) := evL_iconst pm_m0 d0_860 rfl rfl
theorem d0_861 : decode code 861 = .ok (.iadd, 1) := by decide +kernel
theorem s0_861 {X : Nat × (Nat → Int32)} {v0 v1 v2 v3 : Value} {x : Int32} {y : Int32} {st : List Value} {im : IM} {rm : RM}  : evL X 861 [v0, v1, v2, v3] (.int y :: .int x :: st) im rm = evL X 862 [v0, v1, v2, v3] (.int (x + y) :: st) (im) (rm) := evL_iadd pm_m0 d0_861 rfl
theorem d0_862 : decode code 862 = .ok (.iaload, 1) := by decide +kernel
theorem s0_862 {X : Nat × (Nat → Int32)} {v0 v1 v2 v3 : Value} {i : Int32} {st : List Value} {im : IM} {rm : RM} (hk : kd 1000300 = 99) (hi : pm_in i X.1 = true) : evL X 862 [v0, v1, v2, v3] (.int i :: .ref 1000300 :: st) im rm = evL X 863 [v0, v1, v2, v3] (.int (X.2 i.toNatClampNeg) :: st) (im) (rm) := evL_sld pm_m0 rfl d0_862 hk hi rfl
theorem d0_863 : decode code 863 = .ok (.aload_n 0, 1) := by decide +kernel
theorem s0_863 {X : Nat × (Nat → Int32)} {v1 v2 v3 : Value} {l1 : Nat} {st : List Value} {im : IM} {rm : RM}  : evL X 863 [.ref l1, v1, v2, v3] st im rm = evL X 864 [.ref l1, v1, v2, v3] (.ref l1 :: st) (im) (rm) := evL_aload_n pm_m0 d0_863 rfl rfl
theorem d0_864 : decode code 864 = .ok (.iload_n 3, 1) := by decide +kernel
theorem s0_864 {X : Nat × (Nat → Int32)} {v0 v1 v2 : Value} {l1 : Int32} {st : List Value} {im : IM} {rm : RM}  : evL X 864 [v0, v1, v2, .int l1] st im rm = evL X 865 [v0, v1, v2, .int l1] (.int l1 :: st) (im) (rm) := evL_iload_n pm_m0 d0_864 rfl rfl
theorem d0_865 : decode code 865 = .ok (.iconst 2, 1) := by decide +kernel
theorem s0_865 {X : Nat × (Nat → Int32)} {v0 v1 v2 v3 : Value}  {st : List Value} {im : IM} {rm : RM}  : evL X 865 [v0, v1, v2, v3] st im rm = evL X 866 [v0, v1, v2, v3] (.int (nI 2) :: st) (im) (rm) := evL_iconst pm_m0 d0_865 rfl rfl
theorem d0_866 : decode code 866 = .ok (.iadd, 1) := by decide +kernel
theorem s0_866 {X : Nat × (Nat → Int32)} {v0 v1 v2 v3 : Value} {x : Int32} {y : Int32} {st : List Value} {im : IM} {rm : RM}  : evL X 866 [v0, v1, v2, v3] (.int y :: .int x :: st) im rm = evL X 867 [v0, v1, v2, v3] (.int (x + y) :: st) (im) (rm) := evL_iadd pm_m0 d0_866 rfl
theorem d0_867 : decode code 867 = .ok (.iaload, 1) := by decide +kernel
theorem s0_867 {X : Nat × (Nat → Int32)} {v0 v1 v2 v3 : Value} {i : Int32} {st : List Value} {im : IM} {rm : RM} (hk : kd 1000300 = 99) (hi : pm_in i X.1 = true) : evL X 867 [v0, v1, v2, v3] (.int i :: .ref 1000300 :: st) im rm = evL X 868 [v0, v1, v2, v3] (.int (X.2 i.toNatClampNeg) :: st) (im) (rm) := evL_sld pm_m0 rfl d0_867 hk hi rfl
theorem d0_868 : decode code 868 = .ok (.invokevirtual 101, 3) := by decide +kernel
theorem s0_868 {X : Nat × (Nat → Int32)} {v0 v1 v2 v3 : Value} {a : Nat} {p1 : Int32} {p2 : Int32} {r3 : Int32} {im : IM} {rm : RM} (hk : kd a = 18) : evL X 868 [v0, v1, v2, v3] [.int p2, .int p1, .ref a, .int r3] im rm = (ev 156 0 [.ref a, .int p1, .int p2] [] im rm).bind (fun r => evL X 871 [v0, v1, v2, v3] (r.1.toList ++ [.int r3]) r.2.1 r.2.2) := evL_callV pm_m0 d0_868 l9_101 rfl pm_m156 (by decide) hk rfl ⟨rfl, rfl⟩ rfl rfl
theorem d0_871 : decode code 871 = .ok (.if_icmp .eq 478, 3) := by decide +kernel
theorem s0_871 {X : Nat × (Nat → Int32)} {v0 v1 v2 v3 : Value} {x : Int32} {y : Int32} {st : List Value} {im : IM} {rm : RM} : evL X 871 [v0, v1, v2, v3] (.int y :: .int x :: st) im rm = if x = y then evL X 1349 [v0, v1, v2, v3] st im rm else evL X 874 [v0, v1, v2, v3] st im rm := evL_icmp_eq pm_m0 d0_871 rfl rfl rfl
theorem d0_874 : decode code 874 = .ok (.iconst 0, 1) := by decide +kernel
theorem s0_874 {X : Nat × (Nat → Int32)} {v0 v1 v2 v3 : Value}  {st : List Value} {im : IM} {rm : RM}  : evL X 874 [v0, v1, v2, v3] st im rm = evL X 875 [v0, v1, v2, v3] (.int (nI 0) :: st) (im) (rm) := evL_iconst pm_m0 d0_874 rfl rfl
theorem d0_875 : decode code 875 = .ok (.ireturn, 1) := by decide +kernel
theorem s0_875 {X : Nat × (Nat → Int32)} {v0 v1 v2 v3 : Value} {x : Int32} {im : IM} {rm : RM} (hx : x = 0 ∨ x = 1) : evL X 875 [v0, v1, v2, v3] [.int x] im rm = some (some (.int x), im, rm) := evL_zreturn pm_m0 d0_875 rfl hx (by decide)
theorem d0_876 : decode code 876 = .ok (.aload_n 1, 1) := by decide +kernel
theorem s0_876 {X : Nat × (Nat → Int32)} {v0 v2 v3 : Value} {l1 : Nat} {st : List Value} {im : IM} {rm : RM}  : evL X 876 [v0, .ref l1, v2, v3] st im rm = evL X 877 [v0, .ref l1, v2, v3] (.ref l1 :: st) (im) (rm) := evL_aload_n pm_m0 d0_876 rfl rfl
theorem d0_877 : decode code 877 = .ok (.aload_n 0, 1) := by decide +kernel
theorem s0_877 {X : Nat × (Nat → Int32)} {v1 v2 v3 : Value} {l1 : Nat} {st : List Value} {im : IM} {rm : RM}  : evL X 877 [.ref l1, v1, v2, v3] st im rm = evL X 878 [.ref l1, v1, v2, v3] (.ref l1 :: st) (im) (rm) := evL_aload_n pm_m0 d0_877 rfl rfl
theorem d0_878 : decode code 878 = .ok (.iload_n 3, 1) := by decide +kernel
theorem s0_878 {X : Nat × (Nat → Int32)} {v0 v1 v2 : Value} {l1 : Int32} {st : List Value} {im : IM} {rm : RM}  : evL X 878 [v0, v1, v2, .int l1] st im rm = evL X 879 [v0, v1, v2, .int l1] (.int l1 :: st) (im) (rm) := evL_iload_n pm_m0 d0_878 rfl rfl
theorem d0_879 : decode code 879 = .ok (.iconst 1, 1) := by decide +kernel
theorem s0_879 {X : Nat × (Nat → Int32)} {v0 v1 v2 v3 : Value}  {st : List Value} {im : IM} {rm : RM}  : evL X 879 [v0, v1, v2, v3] st im rm = evL X 880 [v0, v1, v2, v3] (.int (nI 1) :: st) (im) (rm) := evL_iconst pm_m0 d0_879 rfl rfl
theorem d0_880 : decode code 880 = .ok (.iadd, 1) := by decide +kernel
theorem s0_880 {X : Nat × (Nat → Int32)} {v0 v1 v2 v3 : Value} {x : Int32} {y : Int32} {st : List Value} {im : IM} {rm : RM}  : evL X 880 [v0, v1, v2, v3] (.int y :: .int x :: st) im rm = evL X 881 [v0, v1, v2, v3] (.int (x + y) :: st) (im) (rm) := evL_iadd pm_m0 d0_880 rfl
theorem d0_881 : decode code 881 = .ok (.iaload, 1) := by decide +kernel
theorem s0_881 {X : Nat × (Nat → Int32)} {v0 v1 v2 v3 : Value} {i : Int32} {st : List Value} {im : IM} {rm : RM} (hk : kd 1000300 = 99) (hi : pm_in i X.1 = true) : evL X 881 [v0, v1, v2, v3] (.int i :: .ref 1000300 :: st) im rm = evL X 882 [v0, v1, v2, v3] (.int (X.2 i.toNatClampNeg) :: st) (im) (rm) := evL_sld pm_m0 rfl d0_881 hk hi rfl
theorem d0_882 : decode code 882 = .ok (.aload_n 0, 1) := by decide +kernel
theorem s0_882 {X : Nat × (Nat → Int32)} {v1 v2 v3 : Value} {l1 : Nat} {st : List Value} {im : IM} {rm : RM}  : evL X 882 [.ref l1, v1, v2, v3] st im rm = evL X 883 [.ref l1, v1, v2, v3] (.ref l1 :: st) (im) (rm) := evL_aload_n pm_m0 d0_882 rfl rfl
theorem d0_883 : decode code 883 = .ok (.iload_n 3, 1) := by decide +kernel
theorem s0_883 {X : Nat × (Nat → Int32)} {v0 v1 v2 : Value} {l1 : Int32} {st : List Value} {im : IM} {rm : RM}  : evL X 883 [v0, v1, v2, .int l1] st im rm = evL X 884 [v0, v1, v2, .int l1] (.int l1 :: st) (im) (rm) := evL_iload_n pm_m0 d0_883 rfl rfl
theorem d0_884 : decode code 884 = .ok (.iconst 2, 1) := by decide +kernel
theorem s0_884 {X : Nat × (Nat → Int32)} {v0 v1 v2 v3 : Value}  {st : List Value} {im : IM} {rm : RM}  : evL X 884 [v0, v1, v2, v3] st im rm = evL X 885 [v0, v1, v2, v3] (.int (nI 2) :: st) (im) (rm) := evL_iconst pm_m0 d0_884 rfl rfl
theorem d0_885 : decode code 885 = .ok (.iadd, 1) := by decide +kernel
theorem s0_885 {X : Nat × (Nat → Int32)} {v0 v1 v2 v3 : Value} {x : Int32} {y : Int32} {st : List Value} {im : IM} {rm : RM}  : evL X 885 [v0, v1, v2, v3] (.int y :: .int x :: st) im rm = evL X 886 [v0, v1, v2, v3] (.int (x + y) :: st) (im) (rm) := evL_iadd pm_m0 d0_885 rfl
theorem d0_886 : decode code 886 = .ok (.iaload, 1) := by decide +kernel
theorem s0_886 {X : Nat × (Nat → Int32)} {v0 v1 v2 v3 : Value} {i : Int32} {st : List Value} {im : IM} {rm : RM} (hk : kd 1000300 = 99) (hi : pm_in i X.1 = true) : evL X 886 [v0, v1, v2, v3] (.int i :: .ref 1000300 :: st) im rm = evL X 887 [v0, v1, v2, v3] (.int (X.2 i.toNatClampNeg) :: st) (im) (rm) := evL_sld pm_m0 rfl d0_886 hk hi rfl
theorem d0_887 : decode code 887 = .ok (.aload_n 0, 1) := by decide +kernel
theorem s0_887 {X : Nat × (Nat → Int32)} {v1 v2 v3 : Value} {l1 : Nat} {st : List Value} {im : IM} {rm : RM}  : evL X 887 [.ref l1, v1, v2, v3] st im rm = evL X 888 [.ref l1, v1, v2, v3] (.ref l1 :: st) (im) (rm) := evL_aload_n pm_m0 d0_887 rfl rfl
theorem d0_888 : decode code 888 = .ok (.iload_n 3, 1) := by decide +kernel
theorem s0_888 {X : Nat × (Nat → Int32)} {v0 v1 v2 : Value} {l1 : Int32} {st : List Value} {im : IM} {rm : RM}  : evL X 888 [v0, v1, v2, .int l1] st im rm = evL X 889 [v0, v1, v2, .int l1] (.int l1 :: st) (im) (rm) := evL_iload_n pm_m0 d0_888 rfl rfl
theorem d0_889 : decode code 889 = .ok (.iconst 3, 1) := by decide +kernel
theorem s0_889 {X : Nat × (Nat → Int32)} {v0 v1 v2 v3 : Value}  {st : List Value} {im : IM} {rm : RM}  : evL X 889 [v0, v1, v2, v3] st im rm = evL X 890 [v0, v1, v2, v3] (.int (nI 3) :: st) (im) (rm) := evL_iconst pm_m0 d0_889 rfl rfl
theorem d0_890 : decode code 890 = .ok (.iadd, 1) := by decide +kernel
theorem s0_890 {X : Nat × (Nat → Int32)} {v0 v1 v2 v3 : Value} {x : Int32} {y : Int32} {st : List Value} {im : IM} {rm : RM}  : evL X 890 [v0, v1, v2, v3] (.int y :: .int x :: st) im rm = evL X 891 [v0, v1, v2, v3] (.int (x + y) :: st) (im) (rm) := evL_iadd pm_m0 d0_890 rfl
theorem d0_891 : decode code 891 = .ok (.iaload, 1) := by decide +kernel
theorem s0_891 {X : Nat × (Nat → Int32)} {v0 v1 v2 v3 : Value} {i : Int32} {st : List Value} {im : IM} {rm : RM} (hk : kd 1000300 = 99) (hi : pm_in i X.1 = true) : evL X 891 [v0, v1, v2, v3] (.int i :: .ref 1000300 :: st) im rm = evL X 892 [v0, v1, v2, v3] (.int (X.2 i.toNatClampNeg) :: st) (im) (rm) := evL_sld pm_m0 rfl d0_891 hk hi rfl
theorem d0_892 : decode code 892 = .ok (.aload_n 0, 1) := by decide +kernel
theorem s0_892 {X : Nat × (Nat → Int32)} {v1 v2 v3 : Value} {l1 : Nat} {st : List Value} {im : IM} {rm : RM}  : evL X 892 [.ref l1, v1, v2, v3] st im rm = evL X 893 [.ref l1, v1, v2, v3] (.ref l1 :: st) (im) (rm) := evL_aload_n pm_m0 d0_892 rfl rfl
theorem d0_893 : decode code 893 = .ok (.iload_n 3, 1) := by decide +kernel
theorem s0_893 {X : Nat × (Nat → Int32)} {v0 v1 v2 : Value} {l1 : Int32} {st : List Value} {im : IM} {rm : RM}  : evL X 893 [v0, v1, v2, .int l1] st im rm = evL X 894 [v0, v1, v2, .int l1] (.int l1 :: st) (im) (rm) := evL_iload_n pm_m0 d0_893 rfl rfl
theorem d0_894 : decode code 894 = .ok (.iconst 4, 1) := by decide +kernel
theorem s0_894 {X : Nat × (Nat → Int32)} {v0 v1 v2 v3 : Value}  {st : List Value} {im : IM} {rm : RM}  : evL X 894 [v0, v1, v2, v3] st im rm = evL X 895 [v0, v1, v2, v3] (.int (nI 4) :: st) (im) (rm) := evL_iconst pm_m0 d0_894 rfl rfl
theorem d0_895 : decode code 895 = .ok (.iadd, 1) := by decide +kernel
theorem s0_895 {X : Nat × (Nat → Int32)} {v0 v1 v2 v3 : Value} {x : Int32} {y : Int32} {st : List Value} {im : IM} {rm : RM}  : evL X 895 [v0, v1, v2, v3] (.int y :: .int x :: st) im rm = evL X 896 [v0, v1, v2, v3] (.int (x + y) :: st) (im) (rm) := evL_iadd pm_m0 d0_895 rfl
theorem d0_896 : decode code 896 = .ok (.iaload, 1) := by decide +kernel
theorem s0_896 {X : Nat × (Nat → Int32)} {v0 v1 v2 v3 : Value} {i : Int32} {st : List Value} {im : IM} {rm : RM} (hk : kd 1000300 = 99) (hi : pm_in i X.1 = true) : evL X 896 [v0, v1, v2, v3] (.int i :: .ref 1000300 :: st) im rm = evL X 897 [v0, v1, v2, v3] (.int (X.2 i.toNatClampNeg) :: st) (im) (rm) := evL_sld pm_m0 rfl d0_896 hk hi rfl
theorem d0_897 : decode code 897 = .ok (.invokevirtual 102, 3) := by decide +kernel
theorem s0_897 {X : Nat × (Nat → Int32)} {v0 v1 v2 v3 : Value} {a : Nat} {p1 : Int32} {p2 : Int32} {p3 : Int32} {p4 : Int32} {im : IM} {rm : RM} (hk : kd a = 17) : evL X 897 [v0, v1, v2, v3] [.int p4, .int p3, .int p2, .int p1, .ref a] im rm = (ev 61 0 [.ref a, .int p1, .int p2, .int p3, .int p4, pm_u, pm_u, pm_u] [] im rm).bind (fun r => evL X 900 [v0, v1, v2, v3] (r.1.toList ++ []) r.2.1 r.2.2) := evL_callV pm_m0 d0_897 l9_102 rfl pm_m61 (by decide) hk rfl ⟨rfl, rfl⟩ rfl rfl
theorem d0_900 : decode code 900 = .ok (.aload_n 2, 1) := by decide +kernel
theorem s0_900 {X : Nat × (Nat → Int32)} {v0 v1 v3 : Value} {l1 : Nat} {st : List Value} {im : IM} {rm : RM}  : evL X 900 [v0, v1, .ref l1, v3] st im rm = evL X 901 [v0, v1, .ref l1, v3] (.ref l1 :: st) (im) (rm) := evL_aload_n pm_m0 d0_900 rfl rfl
theorem d0_901 : decode code 901 = .ok (.aload_n 0, 1) := by decide +kernel
theorem s0_901 {X : Nat × (Nat → Int32)} {v1 v2 v3 : Value} {l1 : Nat} {st : List Value} {im : IM} {rm : RM}  : evL X 901 [.ref l1, v1, v2, v3] st im rm = evL X 902 [.ref l1, v1, v2, v3] (.ref l1 :: st) (im) (rm) := evL_aload_n pm_m0 d0_901 rfl rfl
theorem d0_902 : decode code 902 = .ok (.iload_n 3, 1) := by decide +kernel
theorem s0_902 {X : Nat × (Nat → Int32)} {v0 v1 v2 : Value} {l1 : Int32} {st : List Value} {im : IM} {rm : RM}  : evL X 902 [v0, v1, v2, .int l1] st im rm = evL X 903 [v0, v1, v2, .int l1] (.int l1 :: st) (im) (rm) := evL_iload_n pm_m0 d0_902 rfl rfl
theorem d0_903 : decode code 903 = .ok (.iconst 1, 1) := by decide +kernel
theorem s0_903 {X : Nat × (Nat → Int32)} {v0 v1 v2 v3 : Value}  {st : List Value} {im : IM} {rm : RM}  : evL X 903 [v0, v1, v2, v3] st im rm = evL X 904 [v0, v1, v2, v3] (.int (nI 1) :: st) (im) (rm) := evL_iconst pm_m0 d0_903 rfl rfl
theorem d0_904 : decode code 904 = .ok (.iadd, 1) := by decide +kernel
theorem s0_904 {X : Nat × (Nat → Int32)} {v0 v1 v2 v3 : Value} {x : Int32} {y : Int32} {st : List Value} {im : IM} {rm : RM}  : evL X 904 [v0, v1, v2, v3] (.int y :: .int x :: st) im rm = evL X 905 [v0, v1, v2, v3] (.int (x + y) :: st) (im) (rm) := evL_iadd pm_m0 d0_904 rfl
theorem d0_905 : decode code 905 = .ok (.iaload, 1) := by decide +kernel
theorem s0_905 {X : Nat × (Nat → Int32)} {v0 v1 v2 v3 : Value} {i : Int32} {st : List Value} {im : IM} {rm : RM} (hk : kd 1000300 = 99) (hi : pm_in i X.1 = true) : evL X 905 [v0, v1, v2, v3] (.int i :: .ref 1000300 :: st) im rm = evL X 906 [v0, v1, v2, v3] (.int (X.2 i.toNatClampNeg) :: st) (im) (rm) := evL_sld pm_m0 rfl d0_905 hk hi rfl
theorem d0_906 : decode code 906 = .ok (.aload_n 0, 1) := by decide +kernel
theorem s0_906 {X : Nat × (Nat → Int32)} {v1 v2 v3 : Value} {l1 : Nat} {st : List Value} {im : IM} {rm : RM}  : evL X 906 [.ref l1, v1, v2, v3] st im rm = evL X 907 [.ref l1, v1, v2, v3] (.ref l1 :: st) (im) (rm) := evL_aload_n pm_m0 d0_906 rfl rfl
theorem d0_907 : decode code 907 = .ok (.iload_n 3, 1) := by decide +kernel
theorem s0_907 {X : Nat × (Nat → Int32)} {v0 v1 v2 : Value} {l1 : Int32} {st : List Value} {im : IM} {rm : RM}  : evL X 907 [v0, v1, v2, .int l1] st im rm = evL X 908 [v0, v1, v2, .int l1] (.int l1 :: st) (im) (rm) := evL_iload_n pm_m0 d0_907 rfl rfl
theorem d0_908 : decode code 908 = .ok (.iconst 2, 1) := by decide +kernel
theorem s0_908 {X : Nat × (Nat → Int32)} {v0 v1 v2 v3 : Value}  {st : List Value} {im : IM} {rm : RM}  : evL X 908 [v0, v1, v2, v3] st im rm = evL X 909 [v0, v1, v2, v3] (.int (nI 2) :: st) (im) (rm) := evL_iconst pm_m0 d0_908 rfl rfl
theorem d0_909 : decode code 909 = .ok (.iadd, 1) := by decide +kernel
theorem s0_909 {X : Nat × (Nat → Int32)} {v0 v1 v2 v3 : Value} {x : Int32} {y : Int32} {st : List Value} {im : IM} {rm : RM}  : evL X 909 [v0, v1, v2, v3] (.int y :: .int x :: st) im rm = evL X 910 [v0, v1, v2, v3] (.int (x + y) :: st) (im) (rm) := evL_iadd pm_m0 d0_909 rfl
theorem d0_910 : decode code 910 = .ok (.iaload, 1) := by decide +kernel
theorem s0_910 {X : Nat × (Nat → Int32)} {v0 v1 v2 v3 : Value} {i : Int32} {st : List Value} {im : IM} {rm : RM} (hk : kd 1000300 = 99) (hi : pm_in i X.1 = true) : evL X 910 [v0, v1, v2, v3] (.int i :: .ref 1000300 :: st) im rm = evL X 911 [v0, v1, v2, v3] (.int (X.2 i.toNatClampNeg) :: st) (im) (rm) := evL_sld pm_m0 rfl d0_910 hk hi rfl
theorem d0_911 : decode code 911 = .ok (.aload_n 0, 1) := by decide +kernel
theorem s0_911 {X : Nat × (Nat → Int32)} {v1 v2 v3 : Value} {l1 : Nat} {st : List Value} {im : IM} {rm : RM}  : evL X 911 [.ref l1, v1, v2, v3] st im rm = evL X 912 [.ref l1, v1, v2, v3] (.ref l1 :: st) (im) (rm) := evL_aload_n pm_m0 d0_911 rfl rfl
theorem d0_912 : decode code 912 = .ok (.iload_n 3, 1) := by decide +kernel
theorem s0_912 {X : Nat × (Nat → Int32)} {v0 v1 v2 : Value} {l1 : Int32} {st : List Value} {im : IM} {rm : RM}  : evL X 912 [v0, v1, v2, .int l1] st im rm = evL X 913 [v0, v1, v2, .int l1] (.int l1 :: st) (im) (rm) := evL_iload_n pm_m0 d0_912 rfl rfl
theorem d0_913 : decode code 913 = .ok (.iconst 3, 1) := by decide +kernel
theorem s0_913 {X : Nat × (Nat → Int32)} {v0 v1 v2 v3 : Value}  {st : List Value} {im : IM} {rm : RM}  : evL X 913 [v0, v1, v2, v3] st im rm = evL X 914 [v0, v1, v2, v3] (.int (nI 3) :: st) (im) (rm) := evL_iconst pm_m0 d0_913 rfl rfl
theorem d0_914 : decode code 914 = .ok (.iadd, 1) := by decide +kernel
theorem s0_914 {X : Nat × (Nat → Int32)} {v0 v1 v2 v3 : Value} {x : Int32} {y : Int32} {st : List Value} {im : IM} {rm : RM}  : evL X 914 [v0, v1, v2, v3] (.int y :: .int x :: st) im rm = evL X 915 [v0, v1, v2, v3] (.int (x + y) :: st) (im) (rm) := evL_iadd pm_m0 d0_914 rfl
theorem d0_915 : decode code 915 = .ok (.iaload, 1) := by decide +kernel
theorem s0_915 {X : Nat × (Nat → Int32)} {v0 v1 v2 v3 : Value} {i : Int32} {st : List Value} {im : IM} {rm : RM} (hk : kd 1000300 = 99) (hi : pm_in i X.1 = true) : evL X 915 [v0, v1, v2, v3] (.int i :: .ref 1000300 :: st) im rm = evL X 916 [v0, v1, v2, v3] (.int (X.2 i.toNatClampNeg) :: st) (im) (rm) := evL_sld pm_m0 rfl d0_915 hk hi rfl
theorem d0_916 : decode code 916 = .ok (.aload_n 0, 1) := by decide +kernel
theorem s0_916 {X : Nat × (Nat → Int32)} {v1 v2 v3 : Value} {l1 : Nat} {st : List Value} {im : IM} {rm : RM}  : evL X 916 [.ref l1, v1, v2, v3] st im rm = evL X 917 [.ref l1, v1, v2, v3] (.ref l1 :: st) (im) (rm) := evL_aload_n pm_m0 d0_916 rfl rfl
theorem d0_917 : decode code 917 = .ok (.iload_n 3, 1) := by decide +kernel
theorem s0_917 {X : Nat × (Nat → Int32)} {v0 v1 v2 : Value} {l1 : Int32} {st : List Value} {im : IM} {rm : RM}  : evL X 917 [v0, v1, v2, .int l1] st im rm = evL X 918 [v0, v1, v2, .int l1] (.int l1 :: st) (im) (rm) := evL_iload_n pm_m0 d0_917 rfl rfl
theorem d0_918 : decode code 918 = .ok (.iconst 4, 1) := by decide +kernel
theorem s0_918 {X : Nat × (Nat → Int32)} {v0 v1 v2 v3 : Value}  {st : List Value} {im : IM} {rm : RM}  : evL X 918 [v0, v1, v2, v3] st im rm = evL X 919 [v0, v1, v2, v3] (.int (nI 4) :: st) (im) (rm) := evL_iconst pm_m0 d0_918 rfl rfl
theorem d0_919 : decode code 919 = .ok (.iadd, 1) := by decide +kernel
theorem s0_919 {X : Nat × (Nat → Int32)} {v0 v1 v2 v3 : Value} {x : Int32} {y : Int32} {st : List Value} {im : IM} {rm : RM}  : evL X 919 [v0, v1, v2, v3] (.int y :: .int x :: st) im rm = evL X 920 [v0, v1, v2, v3] (.int (x + y) :: st) (im) (rm) := evL_iadd pm_m0 d0_919 rfl
theorem d0_920 : decode code 920 = .ok (.iaload, 1) := by decide +kernel
theorem s0_920 {X : Nat × (Nat → Int32)} {v0 v1 v2 v3 : Value} {i : Int32} {st : List Value} {im : IM} {rm : RM} (hk : kd 1000300 = 99) (hi : pm_in i X.1 = true) : evL X 920 [v0, v1, v2, v3] (.int i :: .ref 1000300 :: st) im rm = evL X 921 [v0, v1, v2, v3] (.int (X.2 i.toNatClampNeg) :: st) (im) (rm) := evL_sld pm_m0 rfl d0_920 hk hi rfl
theorem d0_921 : decode code 921 = .ok (.invokevirtual 105, 3) := by decide +kernel
theorem s0_921 {X : Nat × (Nat → Int32)} {v0 v1 v2 v3 : Value} {a : Nat} {p1 : Int32} {p2 : Int32} {p3 : Int32} {p4 : Int32} {r5 : Int32} {im : IM} {rm : RM} (hk : kd a = 18) : evL X 921 [v0, v1, v2, v3] [.int p4, .int p3, .int p2, .int p1, .ref a, .int r5] im rm = (ev 157 0 [.ref a, .int p1, .int p2, .int p3, .int p4, pm_u, pm_u, pm_u, pm_u, pm_u] [] im rm).bind (fun r => evL X 924 [v0, v1, v2, v3] (r.1.toList ++ [.int r5]) r.2.1 r.2.2) := evL_callV pm_m0 d0_921 l9_105 rfl pm_m157 (by decide) hk rfl ⟨rfl, rfl⟩ rfl rfl
theorem d0_924 : decode code 924 = .ok (.if_icmp .eq 425, 3) := by decide +kernel
theorem s0_924 {X : Nat × (Nat → Int32)} {v0 v1 v2 v3 : Value} {x : Int32} {y : Int32} {st : List Value} {im : IM} {rm : RM} : evL X 924 [v0, v1, v2, v3] (.int y :: .int x :: st) im rm = if x = y then evL X 1349 [v0, v1, v2, v3] st im rm else evL X 927 [v0, v1, v2, v3] st im rm := evL_icmp_eq pm_m0 d0_924 rfl rfl rfl
theorem d0_927 : decode code 927 = .ok (.iconst 0, 1) := by decide +kernel
theorem s0_927 {X : Nat × (Nat → Int32)} {v0 v1 v2 v3 : Value}  {st : List Value} {im : IM} {rm : RM}  : evL X 927 [v0, v1, v2, v3] st im rm = evL X 928 [v0, v1, v2, v3] (.int (nI 0) :: st) (im) (rm) := evL_iconst pm_m0 d0_927 rfl rfl
theorem d0_928 : decode code 928 = .ok (.ireturn, 1) := by decide +kernel
theorem s0_928 {X : Nat × (Nat → Int32)} {v0 v1 v2 v3 : Value} {x : Int32} {im : IM} {rm : RM} (hx : x = 0 ∨ x = 1) : evL X 928 [v0, v1, v2, v3] [.int x] im rm = some (some (.int x), im, rm) := evL_zreturn pm_m0 d0_928 rfl hx (by decide)
theorem d0_929 : decode code 929 = .ok (.aload_n 1, 1) := by decide +kernel
theorem s0_929 {X : Nat × (Nat → Int32)} {v0 v2 v3 : Value} {l1 : Nat} {st : List Value} {im : IM} {rm : RM}  : evL X 929 [v0, .ref l1, v2, v3] st im rm = evL X 930 [v0, .ref l1, v2, v3] (.ref l1 :: st) (im) (rm) := evL_aload_n pm_m0 d0_929 rfl rfl
theorem d0_930 : decode code 930 = .ok (.aload_n 0, 1) := by decide +kernel
theorem s0_930 {X : Nat × (Nat → Int32)} {v1 v2 v3 : Value} {l1 : Nat} {st : List Value} {im : IM} {rm : RM}  : evL X 930 [.ref l1, v1, v2, v3] st im rm = evL X 931 [.ref l1, v1, v2, v3] (.ref l1 :: st) (im) (rm) := evL_aload_n pm_m0 d0_930 rfl rfl
theorem d0_931 : decode code 931 = .ok (.iload_n 3, 1) := by decide +kernel
theorem s0_931 {X : Nat × (Nat → Int32)} {v0 v1 v2 : Value} {l1 : Int32} {st : List Value} {im : IM} {rm : RM}  : evL X 931 [v0, v1, v2, .int l1] st im rm = evL X 932 [v0, v1, v2, .int l1] (.int l1 :: st) (im) (rm) := evL_iload_n pm_m0 d0_931 rfl rfl
theorem d0_932 : decode code 932 = .ok (.iconst 1, 1) := by decide +kernel
theorem s0_932 {X : Nat × (Nat → Int32)} {v0 v1 v2 v3 : Value}  {st : List Value} {im : IM} {rm : RM}  : evL X 932 [v0, v1, v2, v3] st im rm = evL X 933 [v0, v1, v2, v3] (.int (nI 1) :: st) (im) (rm) := evL_iconst pm_m0 d0_932 rfl rfl
theorem d0_933 : decode code 933 = .ok (.iadd, 1) := by decide +kernel
theorem s0_933 {X : Nat × (Nat → Int32)} {v0 v1 v2 v3 : Value} {x : Int32} {y : Int32} {st : List Value} {im : IM} {rm : RM}  : evL X 933 [v0, v1, v2, v3] (.int y :: .int x :: st) im rm = evL X 934 [v0, v1, v2, v3] (.int (x + y) :: st) (im) (rm) := evL_iadd pm_m0 d0_933 rfl
theorem d0_934 : decode code 934 = .ok (.iaload, 1) := by decide +kernel
theorem s0_934 {X : Nat × (Nat → Int32)} {v0 v1 v2 v3 : Value} {i : Int32} {st : List Value} {im : IM} {rm : RM} (hk : kd 1000300 = 99) (hi : pm_in i X.1 = true) : evL X 934 [v0, v1, v2, v3] (.int i :: .ref 1000300 :: st) im rm = evL X 935 [v0, v1, v2, v3] (.int (X.2 i.toNatClampNeg) :: st) (im) (rm) := evL_sld pm_m0 rfl d0_934 hk hi rfl
theorem d0_935 : decode code 935 = .ok (.aload_n 0, 1) := by decide +kernel
theorem s0_935 {X : Nat × (Nat → Int32)} {v1 v2 v3 : Value} {l1 : Nat} {st : List Value} {im : IM} {rm : RM}  : evL X 935 [.ref l1, v1, v2, v3] st im rm = evL X 936 [.ref l1, v1, v2, v3] (.ref l1 :: st) (im) (rm) := evL_aload_n pm_m0 d0_935 rfl rfl
theorem d0_936 : decode code 936 = .ok (.iload_n 3, 1) := by decide +kernel
theorem s0_936 {X : Nat × (Nat → Int32)} {v0 v1 v2 : Value} {l1 : Int32} {st : List Value} {im : IM} {rm : RM}  : evL X 936 [v0, v1, v2, .int l1] st im rm = evL X 937 [v0, v1, v2, .int l1] (.int l1 :: st) (im) (rm) := evL_iload_n pm_m0 d0_936 rfl rfl
theorem d0_937 : decode code 937 = .ok (.iconst 2, 1) := by decide +kernel
theorem s0_937 {X : Nat × (Nat → Int32)} {v0 v1 v2 v3 : Value}  {st : List Value} {im : IM} {rm : RM}  : evL X 937 [v0, v1, v2, v3] st im rm = evL X 938 [v0, v1, v2, v3] (.int (nI 2) :: st) (im) (rm) := evL_iconst pm_m0 d0_937 rfl rfl
theorem d0_938 : decode code 938 = .ok (.iadd, 1) := by decide +kernel
theorem s0_938 {X : Nat × (Nat → Int32)} {v0 v1 v2 v3 : Value} {x : Int32} {y : Int32} {st : List Value} {im : IM} {rm : RM}  : evL X 938 [v0, v1, v2, v3] (.int y :: .int x :: st) im rm = evL X 939 [v0, v1, v2, v3] (.int (x + y) :: st) (im) (rm) := evL_iadd pm_m0 d0_938 rfl
theorem d0_939 : decode code 939 = .ok (.iaload, 1) := by decide +kernel
theorem s0_939 {X : Nat × (Nat → Int32)} {v0 v1 v2 v3 : Value} {i : Int32} {st : List Value} {im : IM} {rm : RM} (hk : kd 1000300 = 99) (hi : pm_in i X.1 = true) : evL X 939 [v0, v1, v2, v3] (.int i :: .ref 1000300 :: st) im rm = evL X 940 [v0, v1, v2, v3] (.int (X.2 i.toNatClampNeg) :: st) (im) (rm) := evL_sld pm_m0 rfl d0_939 hk hi rfl
theorem d0_940 : decode code 940 = .ok (.invokevirtual 106, 3) := by decide +kernel
theorem s0_940 {X : Nat × (Nat → Int32)} {v0 v1 v2 v3 : Value} {a : Nat} {p1 : Int32} {p2 : Int32} {im : IM} {rm : RM} (hk : kd a = 17) : evL X 940 [v0, v1, v2, v3] [.int p2, .int p1, .ref a] im rm = (ev 62 0 [.ref a, .int p1, .int p2] [] im rm).bind (fun r => evL X 943 [v0, v1, v2, v3] (r.1.toList ++ []) r.2.1 r.2.2) := evL_callV pm_m0 d0_940 l9_106 rfl pm_m62 (by decide) hk rfl ⟨rfl, rfl⟩ rfl rfl
theorem d0_943 : decode code 943 = .ok (.aload_n 2, 1) := by decide +kernel
theorem s0_943 {X : Nat × (Nat → Int32)} {v0 v1 v3 : Value} {l1 : Nat} {st : List Value} {im : IM} {rm : RM}  : evL X 943 [v0, v1, .ref l1, v3] st im rm = evL X 944 [v0, v1, .ref l1, v3] (.ref l1 :: st) (im) (rm) := evL_aload_n pm_m0 d0_943 rfl rfl
theorem d0_944 : decode code 944 = .ok (.aload_n 0, 1) := by decide +kernel
theorem s0_944 {X : Nat × (Nat → Int32)} {v1 v2 v3 : Value} {l1 : Nat} {st : List Value} {im : IM} {rm : RM}  : evL X 944 [.ref l1, v1, v2, v3] st im rm = evL X 945 [.ref l1, v1, v2, v3] (.ref l1 :: st) (im) (rm) := evL_aload_n pm_m0 d0_944 rfl rfl
theorem d0_945 : decode code 945 = .ok (.iload_n 3, 1) := by decide +kernel
theorem s0_945 {X : Nat × (Nat → Int32)} {v0 v1 v2 : Value} {l1 : Int32} {st : List Value} {im : IM} {rm : RM}  : evL X 945 [v0, v1, v2, .int l1] st im rm = evL X 946 [v0, v1, v2, .int l1] (.int l1 :: st) (im) (rm) := evL_iload_n pm_m0 d0_945 rfl rfl
theorem d0_946 : decode code 946 = .ok (.iconst 1, 1) := by decide +kernel
theorem s0_946 {X : Nat × (Nat → Int32)} {v0 v1 v2 v3 : Value}  {st : List Value} {im : IM} {rm : RM}  : evL X 946 [v0, v1, v2, v3] st im rm = evL X 947 [v0, v1, v2, v3] (.int (nI 1) :: st) (im) (rm) := evL_iconst pm_m0 d0_946 rfl rfl
theorem d0_947 : decode code 947 = .ok (.iadd, 1) := by decide +kernel
theorem s0_947 {X : Nat × (Nat → Int32)} {v0 v1 v2 v3 : Value} {x : Int32} {y : Int32} {st : List Value} {im : IM} {rm : RM}  : evL X 947 [v0, v1, v2, v3] (.int y :: .int x :: st) im rm = evL X 948 [v0, v1, v2, v3] (.int (x + y) :: st) (im) (rm) := evL_iadd pm_m0 d0_947 rfl
theorem d0_948 : decode code 948 = .ok (.iaload, 1) := by decide +kernel
theorem s0_948 {X : Nat × (Nat → Int32)} {v0 v1 v2 v3 : Value} {i : Int32} {st : List Value} {im : IM} {rm : RM} (hk : kd 1000300 = 99) (hi : pm_in i X.1 = true) : evL X 948 [v0, v1, v2, v3] (.int i :: .ref 1000300 :: st) im rm = evL X 949 [v0, v1, v2, v3] (.int (X.2 i.toNatClampNeg) :: st) (im) (rm) := evL_sld pm_m0 rfl d0_948 hk hi rfl
theorem d0_949 : decode code 949 = .ok (.aload_n 0, 1) := by decide +kernel
theorem s0_949 {X : Nat × (Nat → Int32)} {v1 v2 v3 : Value} {l1 : Nat} {st : List Value} {im : IM} {rm : RM}  : evL X 949 [.ref l1, v1, v2, v3] st im rm = evL X 950 [.ref l1, v1, v2, v3] (.ref l1 :: st) (im) (rm) := evL_aload_n pm_m0 d0_949 rfl rfl
theorem d0_950 : decode code 950 = .ok (.iload_n 3, 1) := by decide +kernel
theorem s0_950 {X : Nat × (Nat → Int32)} {v0 v1 v2 : Value} {l1 : Int32} {st : List Value} {im : IM} {rm : RM}  : evL X 950 [v0, v1, v2, .int l1] st im rm = evL X 951 [v0, v1, v2, .int l1] (.int l1 :: st) (im) (rm) := evL_iload_n pm_m0 d0_950 rfl rfl
theorem d0_951 : decode code 951 = .ok (.iconst 2, 1) := by decide +kernel
theorem s0_951 {X : Nat × (Nat → Int32)} {v0 v1 v2 v3 : Value}  {st : List Value} {im : IM} {rm : RM}  : evL X 951 [v0, v1, v2, v3] st im rm = evL X 952 [v0, v1, v2, v3] (.int (nI 2) :: st) (im) (rm) := evL_iconst pm_m0 d0_951 rfl rfl
theorem d0_952 : decode code 952 = .ok (.iadd, 1) := by decide +kernel
theorem s0_952 {X : Nat × (Nat → Int32)} {v0 v1 v2 v3 : Value} {x : Int32} {y : Int32} {st : List Value} {im : IM} {rm : RM}  : evL X 952 [v0, v1, v2, v3] (.int y :: .int x :: st) im rm = evL X 953 [v0, v1, v2, v3] (.int (x + y) :: st) (im) (rm) := evL_iadd pm_m0 d0_952 rfl
theorem d0_953 : decode code 953 = .ok (.iaload, 1) := by decide +kernel
theorem s0_953 {X : Nat × (Nat → Int32)} {v0 v1 v2 v3 : Value} {i : Int32} {st : List Value} {im : IM} {rm : RM} (hk : kd 1000300 = 99) (hi : pm_in i X.1 = true) : evL X 953 [v0, v1, v2, v3] (.int i :: .ref 1000300 :: st) im rm = evL X 954 [v0, v1, v2, v3] (.int (X.2 i.toNatClampNeg) :: st) (im) (rm) := evL_sld pm_m0 rfl d0_953 hk hi rfl
theorem d0_954 : decode code 954 = .ok (.invokevirtual 109, 3) := by decide +kernel
theorem s0_954 {X : Nat × (Nat → Int32)} {v0 v1 v2 v3 : Value} {a : Nat} {p1 : Int32} {p2 : Int32} {r3 : Int32} {im : IM} {rm : RM} (hk : kd a = 18) : evL X 954 [v0, v1, v2, v3] [.int p2, .int p1, .ref a, .int r3] im rm = (ev 158 0 [.ref a, .int p1, .int p2, pm_u] [] im rm).bind (fun r => evL X 957 [v0, v1, v2, v3] (r.1.toList ++ [.int r3]) r.2.1 r.2.2) := evL_callV pm_m0 d0_954 l9_109 rfl pm_m158 (by decide) hk rfl ⟨rfl, rfl⟩ rfl rfl
theorem d0_957 : decode code 957 = .ok (.if_icmp .eq 392, 3) := by decide +kernel
theorem s0_957 {X : Nat × (Nat → Int32)} {v0 v1 v2 v3 : Value} {x : Int32} {y : Int32} {st : List Value} {im : IM} {rm : RM} : evL X 957 [v0, v1, v2, v3] (.int y :: .int x :: st) im rm = if x = y then evL X 1349 [v0, v1, v2, v3] st im rm else evL X 960 [v0, v1, v2, v3] st im rm := evL_icmp_eq pm_m0 d0_957 rfl rfl rfl
theorem d0_960 : decode code 960 = .ok (.iconst 0, 1) := by decide +kernel
theorem s0_960 {X : Nat × (Nat → Int32)} {v0 v1 v2 v3 : Value}  {st : List Value} {im : IM} {rm : RM}  : evL X 960 [v0, v1, v2, v3] st im rm = evL X 961 [v0, v1, v2, v3] (.int (nI 0) :: st) (im) (rm) := evL_iconst pm_m0 d0_960 rfl rfl
theorem d0_961 : decode code 961 = .ok (.ireturn, 1) := by decide +kernel
theorem s0_961 {X : Nat × (Nat → Int32)} {v0 v1 v2 v3 : Value} {x : Int32} {im : IM} {rm : RM} (hx : x = 0 ∨ x = 1) : evL X 961 [v0, v1, v2, v3] [.int x] im rm = some (some (.int x), im, rm) := evL_zreturn pm_m0 d0_961 rfl hx (by decide)
theorem d0_962 : decode code 962 = .ok (.aload_n 1, 1) := by decide +kernel
theorem s0_962 {X : Nat × (Nat → Int32)} {v0 v2 v3 : Value} {l1 : Nat} {st : List Value} {im : IM} {rm : RM}  : evL X 962 [v0, .ref l1, v2, v3] st im rm = evL X 963 [v0, .ref l1, v2, v3] (.ref l1 :: st) (im) (rm) := evL_aload_n pm_m0 d0_962 rfl rfl
theorem d0_963 : decode code 963 = .ok (.aload_n 0, 1) := by decide +kernel
theorem s0_963 {X : Nat × (Nat → Int32)} {v1 v2 v3 : Value} {l1 : Nat} {st : List Value} {im : IM} {rm : RM}  : evL X 963 [.ref l1, v1, v2, v3] st im rm = evL X 964 [.ref l1, v1, v2, v3] (.ref l1 :: st) (im) (rm) := evL_aload_n pm_m0 d0_963 rfl rfl
theorem d0_964 : decode code 964 = .ok (.iload_n 3, 1) := by decide +kernel
theorem s0_964 {X : Nat × (Nat → Int32)} {v0 v1 v2 : Value} {l1 : Int32} {st : List Value} {im : IM} {rm : RM}  : evL X 964 [v0, v1, v2, .int l1] st im rm = evL X 965 [v0, v1, v2, .int l1] (.int l1 :: st) (im) (rm) := evL_iload_n pm_m0 d0_964 rfl rfl
theorem d0_965 : decode code 965 = .ok (.iconst 1, 1) := by decide +kernel
theorem s0_965 {X : Nat × (Nat → Int32)} {v0 v1 v2 v3 : Value}  {st : List Value} {im : IM} {rm : RM}  : evL X 965 [v0, v1, v2, v3] st im rm = evL X 966 [v0, v1, v2, v3] (.int (nI 1) :: st) (im) (rm) := evL_iconst pm_m0 d0_965 rfl rfl
theorem d0_966 : decode code 966 = .ok (.iadd, 1) := by decide +kernel
theorem s0_966 {X : Nat × (Nat → Int32)} {v0 v1 v2 v3 : Value} {x : Int32} {y : Int32} {st : List Value} {im : IM} {rm : RM}  : evL X 966 [v0, v1, v2, v3] (.int y :: .int x :: st) im rm = evL X 967 [v0, v1, v2, v3] (.int (x + y) :: st) (im) (rm) := evL_iadd pm_m0 d0_966 rfl
theorem d0_967 : decode code 967 = .ok (.iaload, 1) := by decide +kernel
theorem s0_967 {X : Nat × (Nat → Int32)} {v0 v1 v2 v3 : Value} {i : Int32} {st : List Value} {im : IM} {rm : RM} (hk : kd 1000300 = 99) (hi : pm_in i X.1 = true) : evL X 967 [v0, v1, v2, v3] (.int i :: .ref 1000300 :: st) im rm = evL X 968 [v0, v1, v2, v3] (.int (X.2 i.toNatClampNeg) :: st) (im) (rm) := evL_sld pm_m0 rfl d0_967 hk hi rfl
theorem d0_968 : decode code 968 = .ok (.aload_n 0, 1) := by decide +kernel
theorem s0_968 {X : Nat × (Nat → Int32)} {v1 v2 v3 : Value} {l1 : Nat} {st : List Value} {im : IM} {rm : RM}  : evL X 968 [.ref l1, v1, v2, v3] st im rm = evL X 969 [.ref l1, v1, v2, v3] (.ref l1 :: st) (im) (rm) := evL_aload_n pm_m0 d0_968 rfl rfl
theorem d0_969 : decode code 969 = .ok (.iload_n 3, 1) := by decide +kernel
theorem s0_969 {X : Nat × (Nat → Int32)} {v0 v1 v2 : Value} {l1 : Int32} {st : List Value} {im : IM} {rm : RM}  : evL X 969 [v0, v1, v2, .int l1] st im rm = evL X 970 [v0, v1, v2, .int l1] (.int l1 :: st) (im) (rm) := evL_iload_n pm_m0 d0_969 rfl rfl
theorem d0_970 : decode code 970 = .ok (.iconst 2, 1) := by decide +kernel
theorem s0_970 {X : Nat × (Nat → Int32)} {v0 v1 v2 v3 : Value}  {st : List Value} {im : IM} {rm : RM}  : evL X 970 [v0, v1, v2, v3] st im rm = evL X 971 [v0, v1, v2, v3] (.int (nI 2) :: st) (im) (rm) := evL_iconst pm_m0 d0_970 rfl rfl
theorem d0_971 : decode code 971 = .ok (.iadd, 1) := by decide +kernel
theorem s0_971 {X : Nat × (Nat → Int32)} {v0 v1 v2 v3 : Value} {x : Int32} {y : Int32} {st : List Value} {im : IM} {rm : RM}  : evL X 971 [v0, v1, v2, v3] (.int y :: .int x :: st) im rm = evL X 972 [v0, v1, v2, v3] (.int (x + y) :: st) (im) (rm) := evL_iadd pm_m0 d0_971 rfl
theorem d0_972 : decode code 972 = .ok (.iaload, 1) := by decide +kernel
theorem s0_972 {X : Nat × (Nat → Int32)} {v0 v1 v2 v3 : Value} {i : Int32} {st : List Value} {im : IM} {rm : RM} (hk : kd 1000300 = 99) (hi : pm_in i X.1 = true) : evL X 972 [v0, v1, v2, v3] (.int i :: .ref 1000300 :: st) im rm = evL X 973 [v0, v1, v2, v3] (.int (X.2 i.toNatClampNeg) :: st) (im) (rm) := evL_sld pm_m0 rfl d0_972 hk hi rfl
theorem d0_973 : decode code 973 = .ok (.invokevirtual 110, 3) := by decide +kernel
theorem s0_973 {X : Nat × (Nat → Int32)} {v0 v1 v2 v3 : Value} {a : Nat} {p1 : Int32} {p2 : Int32} {im : IM} {rm : RM} (hk : kd a = 17) : evL X 973 [v0, v1, v2, v3] [.int p2, .int p1, .ref a] im rm = (ev 63 0 [.ref a, .int p1, .int p2] [] im rm).bind (fun r => evL X 976 [v0, v1, v2, v3] (r.1.toList ++ []) r.2.1 r.2.2) := evL_callV pm_m0 d0_973 l9_110 rfl pm_m63 (by decide) hk rfl ⟨rfl, rfl⟩ rfl rfl
theorem d0_976 : decode code 976 = .ok (.aload_n 2, 1) := by decide +kernel
theorem s0_976 {X : Nat × (Nat → Int32)} {v0 v1 v3 : Value} {l1 : Nat} {st : List Value} {im : IM} {rm : RM}  : evL X 976 [v0, v1, .ref l1, v3] st im rm = evL X 977 [v0, v1, .ref l1, v3] (.ref l1 :: st) (im) (rm) := evL_aload_n pm_m0 d0_976 rfl rfl
theorem d0_977 : decode code 977 = .ok (.aload_n 0, 1) := by decide +kernel
theorem s0_977 {X : Nat × (Nat → Int32)} {v1 v2 v3 : Value} {l1 : Nat} {st : List Value} {im : IM} {rm : RM}  : evL X 977 [.ref l1, v1, v2, v3] st im rm = evL X 978 [.ref l1, v1, v2, v3] (.ref l1 :: st) (im) (rm) := evL_aload_n pm_m0 d0_977 rfl rfl
theorem d0_978 : decode code 978 = .ok (.iload_n 3, 1) := by decide +kernel
theorem s0_978 {X : Nat × (Nat → Int32)} {v0 v1 v2 : Value} {l1 : Int32} {st : List Value} {im : IM} {rm : RM}  : evL X 978 [v0, v1, v2, .int l1] st im rm = evL X 979 [v0, v1, v2, .int l1] (.int l1 :: st) (im) (rm) := evL_iload_n pm_m0 d0_978 rfl rfl
theorem d0_979 : decode code 979 = .ok (.iconst 1, 1) := by decide +kernel
theorem s0_979 {X : Nat × (Nat → Int32)} {v0 v1 v2 v3 : Value}  {st : List Value} {im : IM} {rm : RM}  : evL X 979 [v0, v1, v2, v3] st im rm = evL X 980 [v0, v1, v2, v3] (.int (nI 1) :: st) (im) (rm) := evL_iconst pm_m0 d0_979 rfl rfl
theorem d0_980 : decode code 980 = .ok (.iadd, 1) := by decide +kernel
theorem s0_980 {X : Nat × (Nat → Int32)} {v0 v1 v2 v3 : Value} {x : Int32} {y : Int32} {st : List Value} {im : IM} {rm : RM}  : evL X 980 [v0, v1, v2, v3] (.int y :: .int x :: st) im rm = evL X 981 [v0, v1, v2, v3] (.int (x + y) :: st) (im) (rm) := evL_iadd pm_m0 d0_980 rfl
theorem d0_981 : decode code 981 = .ok (.iaload, 1) := by decide +kernel
theorem s0_981 {X : Nat × (Nat → Int32)} {v0 v1 v2 v3 : Value} {i : Int32} {st : List Value} {im : IM} {rm : RM} (hk : kd 1000300 = 99) (hi : pm_in i X.1 = true) : evL X 981 [v0, v1, v2, v3] (.int i :: .ref 1000300 :: st) im rm = evL X 982 [v0, v1, v2, v3] (.int (X.2 i.toNatClampNeg) :: st) (im) (rm) := evL_sld pm_m0 rfl d0_981 hk hi rfl
theorem d0_982 : decode code 982 = .ok (.aload_n 0, 1) := by decide +kernel
theorem s0_982 {X : Nat × (Nat → Int32)} {v1 v2 v3 : Value} {l1 : Nat} {st : List Value} {im : IM} {rm : RM}  : evL X 982 [.ref l1, v1, v2, v3] st im rm = evL X 983 [.ref l1, v1, v2, v3] (.ref l1 :: st) (im) (rm) := evL_aload_n pm_m0 d0_982 rfl rfl
theorem d0_983 : decode code 983 = .ok (.iload_n 3, 1) := by decide +kernel
theorem s0_983 {X : Nat × (Nat → Int32)} {v0 v1 v2 : Value} {l1 : Int32} {st : List Value} {im : IM} {rm : RM}  : evL X 983 [v0, v1, v2, .int l1] st im rm = evL X 984 [v0, v1, v2, .int l1] (.int l1 :: st) (im) (rm) := evL_iload_n pm_m0 d0_983 rfl rfl
theorem d0_984 : decode code 984 = .ok (.iconst 2, 1) := by decide +kernel
theorem s0_984 {X : Nat × (Nat → Int32)} {v0 v1 v2 v3 : Value}  {st : List Value} {im : IM} {rm : RM}  : evL X 984 [v0, v1, v2, v3] st im rm = evL X 985 [v0, v1, v2, v3] (.int (nI 2) :: st) (im) (rm) := evL_iconst pm_m0 d0_984 rfl rfl
theorem d0_985 : decode code 985 = .ok (.iadd, 1) := by decide +kernel
theorem s0_985 {X : Nat × (Nat → Int32)} {v0 v1 v2 v3 : Value} {x : Int32} {y : Int32} {st : List Value} {im : IM} {rm : RM}  : evL X 985 [v0, v1, v2, v3] (.int y :: .int x :: st) im rm = evL X 986 [v0, v1, v2, v3] (.int (x + y) :: st) (im) (rm) := evL_iadd pm_m0 d0_985 rfl
theorem d0_986 : decode code 986 = .ok (.iaload, 1) := by decide +kernel
theorem s0_986 {X : Nat × (Nat → Int32)} {v0 v1 v2 v3 : Value} {i : Int32} {st : List Value} {im : IM} {rm : RM} (hk : kd 1000300 = 99) (hi : pm_in i X.1 = true) : evL X 986 [v0, v1, v2, v3] (.int i :: .ref 1000300 :: st) im rm = evL X 987 [v0, v1, v2, v3] (.int (X.2 i.toNatClampNeg) :: st) (im) (rm) := evL_sld pm_m0 rfl d0_986 hk hi rfl
theorem d0_987 : decode code 987 = .ok (.invokevirtual 113, 3) := by decide +kernel
theorem s0_987 {X : Nat × (Nat → Int32)} {v0 v1 v2 v3 : Value} {a : Nat} {p1 : Int32} {p2 : Int32} {r3 : Int32} {im : IM} {rm : RM} (hk : kd a = 18) : evL X 987 [v0, v1, v2, v3] [.int p2, .int p1, .ref a, .int r3] im rm = (ev 160 0 [.ref a, .int p1, .int p2] [] im rm).bind (fun r => evL X 990 [v0, v1, v2, v3] (r.1.toList ++ [.int r3]) r.2.1 r.2.2) := evL_callV pm_m0 d0_987 l9_113 rfl pm_m160 (by decide) hk rfl ⟨rfl, rfl⟩ rfl rfl
theorem d0_990 : decode code 990 = .ok (.if_icmp .eq 359, 3) := by decide +kernel
theorem s0_990 {X : Nat × (Nat → Int32)} {v0 v1 v2 v3 : Value} {x : Int32} {y : Int32} {st : List Value} {im : IM} {rm : RM} : evL X 990 [v0, v1, v2, v3] (.int y :: .int x :: st) im rm = if x = y then evL X 1349 [v0, v1, v2, v3] st im rm else evL X 993 [v0, v1, v2, v3] st im rm := evL_icmp_eq pm_m0 d0_990 rfl rfl rfl
theorem d0_993 : decode code 993 = .ok (.iconst 0, 1) := by decide +kernel
theorem s0_993 {X : Nat × (Nat → Int32)} {v0 v1 v2 v3 : Value}  {st : List Value} {im : IM} {rm : RM}  : evL X 993 [v0, v1, v2, v3] st im rm = evL X 994 [v0, v1, v2, v3] (.int (nI 0) :: st) (im) (rm) := evL_iconst pm_m0 d0_993 rfl rfl
theorem d0_994 : decode code 994 = .ok (.ireturn, 1) := by decide +kernel
theorem s0_994 {X : Nat × (Nat → Int32)} {v0 v1 v2 v3 : Value} {x : Int32} {im : IM} {rm : RM} (hx : x = 0 ∨ x = 1) : evL X 994 [v0, v1, v2, v3] [.int x] im rm = some (some (.int x), im, rm) := evL_zreturn pm_m0 d0_994 rfl hx (by decide)
theorem d0_995 : decode code 995 = .ok (.aload_n 1, 1) := by decide +kernel
theorem s0_995 {X : Nat × (Nat → Int32)} {v0 v2 v3 : Value} {l1 : Nat} {st : List Value} {im : IM} {rm : RM}  : evL X 995 [v0, .ref l1, v2, v3] st im rm = evL X 996 [v0, .ref l1, v2, v3] (.ref l1 :: st) (im) (rm) := evL_aload_n pm_m0 d0_995 rfl rfl
theorem d0_996 : decode code 996 = .ok (.aload_n 0, 1) := by decide +kernel
theorem s0_996 {X : Nat × (Nat → Int32)} {v1 v2 v3 : Value} {l1 : Nat} {st : List Value} {im : IM} {rm : RM}  : evL X 996 [.ref l1, v1, v2, v3] st im rm = evL X 997 [.ref l1, v1, v2, v3] (.ref l1 :: st) (im) (rm) := evL_aload_n pm_m0 d0_996 rfl rfl
theorem d0_997 : decode code 997 = .ok (.iload_n 3, 1) := by decide +kernel
theorem s0_997 {X : Nat × (Nat → Int32)} {v0 v1 v2 : Value} {l1 : Int32} {st : List Value} {im : IM} {rm : RM}  : evL X 997 [v0, v1, v2, .int l1] st im rm = evL X 998 [v0, v1, v2, .int l1] (.int l1 :: st) (im) (rm) := evL_iload_n pm_m0 d0_997 rfl rfl
theorem d0_998 : decode code 998 = .ok (.iconst 1, 1) := by decide +kernel
theorem s0_998 {X : Nat × (Nat → Int32)} {v0 v1 v2 v3 : Value}  {st : List Value} {im : IM} {rm : RM}  : evL X 998 [v0, v1, v2, v3] st im rm = evL X 999 [v0, v1, v2, v3] (.int (nI 1) :: st) (im) (rm) := evL_iconst pm_m0 d0_998 rfl rfl
theorem d0_999 : decode code 999 = .ok (.iadd, 1) := by decide +kernel
theorem s0_999 {X : Nat × (Nat → Int32)} {v0 v1 v2 v3 : Value} {x : Int32} {y : Int32} {st : List Value} {im : IM} {rm : RM}  : evL X 999 [v0, v1, v2, v3] (.int y :: .int x :: st) im rm = evL X 1000 [v0, v1, v2, v3] (.int (x + y) :: st) (im) (rm) := evL_iadd pm_m0 d0_999 rfl
theorem d0_1000 : decode code 1000 = .ok (.iaload, 1) := by decide +kernel
theorem s0_1000 {X : Nat × (Nat → Int32)} {v0 v1 v2 v3 : Value} {i : Int32} {st : List Value} {im : IM} {rm : RM} (hk : kd 1000300 = 99) (hi : pm_in i X.1 = true) : evL X 1000 [v0, v1, v2, v3] (.int i :: .ref 1000300 :: st) im rm = evL X 1001 [v0, v1, v2, v3] (.int (X.2 i.toNatClampNeg) :: st) (im) (rm) := evL_sld pm_m0 rfl d0_1000 hk hi rfl
theorem d0_1001 : decode code 1001 = .ok (.aload_n 0, 1) := by decide +kernel
theorem s0_1001 {X : Nat × (Nat → Int32)} {v1 v2 v3 : Value} {l1 : Nat} {st : List Value} {im : IM} {rm : RM}  : evL X 1001 [.ref l1, v1, v2, v3] st im rm = evL X 1002 [.ref l1, v1, v2, v3] (.ref l1 :: st) (im) (rm) := evL_aload_n pm_m0 d0_1001 rfl rfl
theorem d0_1002 : decode code 1002 = .ok (.iload_n 3, 1) := by decide +kernel
theorem s0_1002 {X : Nat × (Nat → Int32)} {v0 v1 v2 : Value} {l1 : Int32} {st : List Value} {im : IM} {rm : RM}  : evL X 1002 [v0, v1, v2, .int l1] st im rm = evL X 1003 [v0, v1, v2, .int l1] (.int l1 :: st) (im) (rm) := evL_iload_n pm_m0 d0_1002 rfl rfl
theorem d0_1003 : decode code 1003 = .ok (.iconst 2, 1) := by decide +kernel
theorem s0_1003 {X : Nat × (Nat → Int32)} {v0 v1 v2 v3 : Value}  {st : List Value} {im : IM} {rm : RM}  : evL X 1003 [v0, v1, v2, v3] st im rm = evL X 1004 [v0, v1, v2, v3] (.int (nI 2) :: st) (im) (rm) := evL_iconst pm_m0 d0_1003 rfl rfl
theorem d0_1004 : decode code 1004 = .ok (.iadd, 1) := by decide +kernel
theorem s0_1004 {X : Nat × (Nat → Int32)} {v0 v1 v2 v3 : Value} {x : Int32} {y : Int32} {st : List Value} {im : IM} {rm : RM}  : evL X 1004 [v0, v1, v2, v3] (.int y :: .int x :: st) im rm = evL X 1005 [v0, v1, v2, v3] (.int (x + y) :: st) (im) (rm) := evL_iadd pm_m0 d0_1004 rfl
theorem d0_1005 : decode code 1005 = .ok (.iaload, 1) := by decide +kernel
theorem s0_1005 {X : Nat × (Nat → Int32)} {v0 v1 v2 v3 : Value} {i : Int32} {st : List Value} {im : IM} {rm : RM} (hk : kd 1000300 = 99) (hi : pm_in i X.1 = true) : evL X 1005 [v0, v1, v2, v3] (.int i :: .ref 1000300 :: st) im rm = evL X 1006 [v0, v1, v2, v3] (.int (X.2 i.toNatClampNeg) :: st) (im) (rm) := evL_sld pm_m0 rfl d0_1005 hk hi rfl
theorem d0_1006 : decode code 1006 = .ok (.aload_n 0, 1) := by decide +kernel
theorem s0_1006 {X : Nat × (Nat → Int32)} {v1 v2 v3 : Value} {l1 : Nat} {st : List Value} {im : IM} {rm : RM}  : evL X 1006 [.ref l1, v1, v2, v3] st im rm = evL X 1007 [.ref l1, v1, v2, v3] (.ref l1 :: st) (im) (rm) := evL_aload_n pm_m0 d0_1006 rfl rfl
theorem d0_1007 : decode code 1007 = .ok (.iload_n 3, 1) := by decide +kernel
theorem s0_1007 {X : Nat × (Nat → Int32)} {v0 v1 v2 : Value} {l1 : Int32} {st : List Value} {im : IM} {rm : RM}  : evL X 1007 [v0, v1, v2, .int l1] st im rm = evL X 1008 [v0, v1, v2, .int l1] (.int l1 :: st) (im) (rm) := evL_iload_n pm_m0 d0_1007 rfl rfl
theorem d0_1008 : decode code 1008 = .ok (.iconst 3, 1) := by decide +kernel
theorem s0_1008 {X : Nat × (Nat → Int32)} {v0 v1 v2 v3 : Value}  {st : List Value} {im : IM} {rm : RM}  : evL X 1008 [v0, v1, v2, v3] st im rm = evL X 1009 [v0, v1, v2, v3] (.int (nI 3) :: st) (im) (rm) := evL_iconst pm_m0 d0_1008 rfl rfl
theorem d0_1009 : decode code 1009 = .ok (.iadd, 1) := by decide +kernel
theorem s0_1009 {X : Nat × (Nat → Int32)} {v0 v1 v2 v3 : Value} {x : Int32} {y : Int32} {st : List Value} {im : IM} {rm : RM}  : evL X 1009 [v0, v1, v2, v3] (.int y :: .int x :: st) im rm = evL X 1010 [v0, v1, v2, v3] (.int (x + y) :: st) (im) (rm) := evL_iadd pm_m0 d0_1009 rfl
theorem d0_1010 : decode code 1010 = .ok (.iaload, 1) := by decide +kernel
theorem s0_1010 {X : Nat × (Nat → Int32)} {v0 v1 v2 v3 : Value} {i : Int32} {st : List Value} {im : IM} {rm : RM} (hk : kd 1000300 = 99) (hi : pm_in i X.1 = true) : evL X 1010 [v0, v1, v2, v3] (.int i :: .ref 1000300 :: st) im rm = evL X 1011 [v0, v1, v2, v3] (.int (X.2 i.toNatClampNeg) :: st) (im) (rm) := evL_sld pm_m0 rfl d0_1010 hk hi rfl
theorem d0_1011 : decode code 1011 = .ok (.invokevirtual 114, 3) := by decide +kernel
theorem s0_1011 {X : Nat × (Nat → Int32)} {v0 v1 v2 v3 : Value} {a : Nat} {p1 : Int32} {p2 : Int32} {p3 : Int32} {im : IM} {rm : RM} (hk : kd a = 17) : evL X 1011 [v0, v1, v2, v3] [.int p3, .int p2, .int p1, .ref a] im rm = (ev 64 0 [.ref a, .int p1, .int p2, .int p3] [] im rm).bind (fun r => evL X 1014 [v0, v1, v2, v3] (r.1.toList ++ []) r.2.1 r.2.2) := evL_callV pm_m0 d0_1011 l9_114 rfl pm_m64 (by decide) hk rfl ⟨rfl, rfl⟩ rfl rfl
theorem d0_1014 : decode code 1014 = .ok (.aload_n 2, 1) := by decide +kernel
theorem s0_1014 {X : Nat × (Nat → Int32)} {v0 v1 v3 : Value} {l1 : Nat} {st : List Value} {im : IM} {rm : RM}  : evL X 1014 [v0, v1, .ref l1, v3] st im rm = evL X 1015 [v0, v1, .ref l1, v3] (.ref l1 :: st) (im) (rm) := evL_aload_n pm_m0 d0_1014 rfl rfl
theorem d0_1015 : decode code 1015 = .ok (.aload_n 0, 1) := by decide +kernel
theorem s0_1015 {X : Nat × (Nat → Int32)} {v1 v2 v3 : Value} {l1 : Nat} {st : List Value} {im : IM} {rm : RM}  : evL X 1015 [.ref l1, v1, v2, v3] st im rm = evL X 1016 [.ref l1, v1, v2, v3] (.ref l1 :: st) (im) (rm) := evL_aload_n pm_m0 d0_1015 rfl rfl
theorem d0_1016 : decode code 1016 = .ok (.iload_n 3, 1) := by decide +kernel
theorem s0_1016 {X : Nat × (Nat → Int32)} {v0 v1 v2 : Value} {l1 : Int32} {st : List Value} {im : IM} {rm : RM}  : evL X 1016 [v0, v1, v2, .int l1] st im rm = evL X 1017 [v0, v1, v2, .int l1] (.int l1 :: st) (im) (rm) := evL_iload_n pm_m0 d0_1016 rfl rfl
theorem d0_1017 : decode code 1017 = .ok (.iconst 1, 1) := by decide +kernel
theorem s0_1017 {X : Nat × (Nat → Int32)} {v0 v1 v2 v3 : Value}  {st : List Value} {im : IM} {rm : RM}  : evL X 1017 [v0, v1, v2, v3] st im rm = evL X 1018 [v0, v1, v2, v3] (.int (nI 1) :: st) (im) (rm) := evL_iconst pm_m0 d0_1017 rfl rfl
theorem d0_1018 : decode code 1018 = .ok (.iadd, 1) := by decide +kernel
theorem s0_1018 {X : Nat × (Nat → Int32)} {v0 v1 v2 v3 : Value} {x : Int32} {y : Int32} {st : List Value} {im : IM} {rm : RM}  : evL X 1018 [v0, v1, v2, v3] (.int y :: .int x :: st) im rm = evL X 1019 [v0, v1, v2, v3] (.int (x + y) :: st) (im) (rm) := evL_iadd pm_m0 d0_1018 rfl
theorem d0_1019 : decode code 1019 = .ok (.iaload, 1) := by decide +kernel
theorem s0_1019 {X : Nat × (Nat → Int32)} {v0 v1 v2 v3 : Value} {i : Int32} {st : List Value} {im : IM} {rm : RM} (hk : kd 1000300 = 99) (hi : pm_in i X.1 = true) : evL X 1019 [v0, v1, v2, v3] (.int i :: .ref 1000300 :: st) im rm = evL X 1020 [v0, v1, v2, v3] (.int (X.2 i.toNatClampNeg) :: st) (im) (rm) := evL_sld pm_m0 rfl d0_1019 hk hi rfl
theorem d0_1020 : decode code 1020 = .ok (.aload_n 0, 1) := by decide +kernel
theorem s0_1020 {X : Nat × (Nat → Int32)} {v1 v2 v3 : Value} {l1 : Nat} {st : List Value} {im : IM} {rm : RM}  : evL X 1020 [.ref l1, v1, v2, v3] st im rm = evL X 1021 [.ref l1, v1, v2, v3] (.ref l1 :: st) (im) (rm) := evL_aload_n pm_m0 d0_1020 rfl rfl
theorem d0_1021 : decode code 1021 = .ok (.iload_n 3, 1) := by decide +kernel
theorem s0_1021 {X : Nat × (Nat → Int32)} {v0 v1 v2 : Value} {l1 : Int32} {st : List Value} {im : IM} {rm : RM}  : evL X 1021 [v0, v1, v2, .int l1] st im rm = evL X 1022 [v0, v1, v2, .int l1] (.int l1 :: st) (im) (rm) := evL_iload_n pm_m0 d0_1021 rfl rfl
theorem d0_1022 : decode code 1022 = .ok (.iconst 2, 1) := by decide +kernel
theorem s0_1022 {X : Nat × (Nat → Int32)} {v0 v1 v2 v3 : Value}  {st : List Value} {im : IM} {rm : RM}  : evL X 1022 [v0, v1, v2, v3] st im rm = evL X 1023 [v0, v1, v2, v3] (.int (nI 2) :: st) (im) (rm) := evL_iconst pm_m0 d0_1022 rfl rfl
theorem d0_1023 : decode code 1023 = .ok (.iadd, 1) := by decide +kernel
theorem s0_1023 {X : Nat × (Nat → Int32)} {v0 v1 v2 v3 : Value} {x : Int32} {y : Int32} {st : List Value} {im : IM} {rm : RM}  : evL X 1023 [v0, v1, v2, v3] (.int y :: .int x :: st) im rm = evL X 1024 [v0, v1, v2, v3] (.int (x + y) :: st) (im) (rm) := evL_iadd pm_m0 d0_1023 rfl
theorem d0_1024 : decode code 1024 = .ok (.iaload, 1) := by decide +kernel
theorem s0_1024 {X : Nat × (Nat → Int32)} {v0 v1 v2 v3 : Value} {i : Int32} {st : List Value} {im : IM} {rm : RM} (hk : kd 1000300 = 99) (hi : pm_in i X.1 = true) : evL X 1024 [v0, v1, v2, v3] (.int i :: .ref 1000300 :: st) im rm = evL X 1025 [v0, v1, v2, v3] (.int (X.2 i.toNatClampNeg) :: st) (im) (rm) := evL_sld pm_m0 rfl d0_1024 hk hi rfl
theorem d0_1025 : decode code 1025 = .ok (.aload_n 0, 1) := by decide +kernel
theorem s0_1025 {X : Nat × (Nat → Int32)} {v1 v2 v3 : Value} {l1 : Nat} {st : List Value} {im : IM} {rm : RM}  : evL X 1025 [.ref l1, v1, v2, v3] st im rm = evL X 1026 [.ref l1, v1, v2, v3] (.ref l1 :: st) (im) (rm) := evL_aload_n pm_m0 d0_1025 rfl rfl
theorem d0_1026 : decode code 1026 = .ok (.iload_n 3, 1) := by decide +kernel
theorem s0_1026 {X : Nat × (Nat → Int32)} {v0 v1 v2 : Value} {l1 : Int32} {st : List Value} {im : IM} {rm : RM}  : evL X 1026 [v0, v1, v2, .int l1] st im rm = evL X 1027 [v0, v1, v2, .int l1] (.int l1 :: st) (im) (rm) := evL_iload_n pm_m0 d0_1026 rfl rfl
theorem d0_1027 : decode code 1027 = .ok (.iconst 3, 1) := by decide +kernel
theorem s0_1027 {X : Nat × (Nat → Int32)} {v0 v1 v2 v3 : Value}  {st : List Value} {im : IM} {rm : RM}  : evL X 1027 [v0, v1, v2, v3] st im rm = evL X 1028 [v0, v1, v2, v3] (.int (nI 3) :: st) (im) (rm) := evL_iconst pm_m0 d0_1027 rfl rfl
theorem d0_1028 : decode code 1028 = .ok (.iadd, 1) := by decide +kernel
theorem s0_1028 {X : Nat × (Nat → Int32)} {v0 v1 v2 v3 : Value} {x : Int32} {y : Int32} {st : List Value} {im : IM} {rm : RM}  : evL X 1028 [v0, v1, v2, v3] (.int y :: .int x :: st) im rm = evL X 1029 [v0, v1, v2, v3] (.int (x + y) :: st) (im) (rm) := evL_iadd pm_m0 d0_1028 rfl
theorem d0_1029 : decode code 1029 = .ok (.iaload, 1) := by decide +kernel
theorem s0_1029 {X : Nat × (Nat → Int32)} {v0 v1 v2 v3 : Value} {i : Int32} {st : List Value} {im : IM} {rm : RM} (hk : kd 1000300 = 99) (hi : pm_in i X.1 = true) : evL X 1029 [v0, v1, v2, v3] (.int i :: .ref 1000300 :: st) im rm = evL X 1030 [v0, v1, v2, v3] (.int (X.2 i.toNatClampNeg) :: st) (im) (rm) := evL_sld pm_m0 rfl d0_1029 hk hi rfl
theorem d0_1030 : decode code 1030 = .ok (.invokevirtual 117, 3) := by decide +kernel
theorem s0_1030 {X : Nat × (Nat → Int32)} {v0 v1 v2 v3 : Value} {a : Nat} {p1 : Int32} {p2 : Int32} {p3 : Int32} {r4 : Int32} {im : IM} {rm : RM} (hk : kd a = 18) : evL X 1030 [v0, v1, v2, v3] [.int p3, .int p2, .int p1, .ref a, .int r4] im rm = (ev 161 0 [.ref a, .int p1, .int p2, .int p3, pm_u] [] im rm).bind (fun r => evL X 1033 [v0, v1, v2, v3] (r.1.toList ++ [.int r4]) r.2.1 r.2.2) := evL_callV pm_m0 d0_1030 l9_117 rfl pm_m161 (by decide) hk rfl ⟨rfl, rfl⟩ rfl rfl
theorem d0_1033 : decode code 1033 = .ok (.if_icmp .eq 316, 3) := by decide +kernel
theorem s0_1033 {X : Nat × (Nat → Int32)} {v0 v1 v2 v3 : Value} {x : Int32} {y : Int32} {st : List Value} {im : IM} {rm : RM} : evL X 1033 [v0, v1, v2, v3] (.int y :: .int x :: st) im rm = if x = y then evL X 1349 [v0, v1, v2, v3] st im rm else evL X 1036 [v0, v1, v2, v3] st im rm := evL_icmp_eq pm_m0 d0_1033 rfl rfl rfl
theorem d0_1036 : decode code 1036 = .ok (.iconst 0, 1) := by decide +kernel
theorem s0_1036 {X : Nat × (Nat → Int32)} {v0 v1 v2 v3 : Value}  {st : List Value} {im : IM} {rm : RM}  : evL X 1036 [v0, v1, v2, v3] st im rm = evL X 1037 [v0, v1, v2, v3] (.int (nI 0) :: st) (im) (rm) := evL_iconst pm_m0 d0_1036 rfl rfl
theorem d0_1037 : decode code 1037 = .ok (.ireturn, 1) := by decide +kernel
theorem s0_1037 {X : Nat × (Nat → Int32)} {v0 v1 v2 v3 : Value} {x : Int32} {im : IM} {rm : RM} (hx : x = 0 ∨ x = 1) : evL X 1037 [v0, v1, v2, v3] [.int x] im rm = some (some (.int x), im, rm) := evL_zreturn pm_m0 d0_1037 rfl hx (by decide)
theorem d0_1038 : decode code 1038 = .ok (.aload_n 1, 1) := by decide +kernel
theorem s0_1038 {X : Nat × (Nat → Int32)} {v0 v2 v3 : Value} {l1 : Nat} {st : List Value} {im : IM} {rm : RM}  : evL X 1038 [v0, .ref l1, v2, v3] st im rm = evL X 1039 [v0, .ref l1, v2, v3] (.ref l1 :: st) (im) (rm) := evL_aload_n pm_m0 d0_1038 rfl rfl
theorem d0_1039 : decode code 1039 = .ok (.aload_n 0, 1) := by decide +kernel
theorem s0_1039 {X : Nat × (Nat → Int32)} {v1 v2 v3 : Value} {l1 : Nat} {st : List Value} {im : IM} {rm : RM}  : evL X 1039 [.ref l1, v1, v2, v3] st im rm = evL X 1040 [.ref l1, v1, v2, v3] (.ref l1 :: st) (im) (rm) := evL_aload_n pm_m0 d0_1039 rfl rfl
theorem d0_1040 : decode code 1040 = .ok (.iload_n 3, 1) := by decide +kernel
theorem s0_1040 {X : Nat × (Nat → Int32)} {v0 v1 v2 : Value} {l1 : Int32} {st : List Value} {im : IM} {rm : RM}  : evL X 1040 [v0, v1, v2, .int l1] st im rm = evL X 1041 [v0, v1, v2, .int l1] (.int l1 :: st) (im) (rm) := evL_iload_n pm_m0 d0_1040 rfl rfl
theorem d0_1041 : decode code 1041 = .ok (.iconst 1, 1) := by decide +kernel
theorem s0_1041 {X : Nat × (Nat → Int32)} {v0 v1 v2 v3 : Value}  {st : List Value} {im : IM} {rm : RM}  : evL X 1041 [v0, v1, v2, v3] st im rm = evL X 1042 [v0, v1, v2, v3] (.int (nI 1) :: st) (im) (rm) := evL_iconst pm_m0 d0_1041 rfl rfl
theorem d0_1042 : decode code 1042 = .ok (.iadd, 1) := by decide +kernel
theorem s0_1042 {X : Nat × (Nat → Int32)} {v0 v1 v2 v3 : Value} {x : Int32} {y : Int32} {st : List Value} {im : IM} {rm : RM}  : evL X 1042 [v0, v1, v2, v3] (.int y :: .int x :: st) im rm = evL X 1043 [v0, v1, v2, v3] (.int (x + y) :: st) (im) (rm) := evL_iadd pm_m0 d0_1042 rfl
theorem d0_1043 : decode code 1043 = .ok (.iaload, 1) := by decide +kernel
theorem s0_1043 {X : Nat × (Nat → Int32)} {v0 v1 v2 v3 : Value} {i : Int32} {st : List Value} {im : IM} {rm : RM} (hk : kd 1000300 = 99) (hi : pm_in i X.1 = true) : evL X 1043 [v0, v1, v2, v3] (.int i :: .ref 1000300 :: st) im rm = evL X 1044 [v0, v1, v2, v3] (.int (X.2 i.toNatClampNeg) :: st) (im) (rm) := evL_sld pm_m0 rfl d0_1043 hk hi rfl
theorem d0_1044 : decode code 1044 = .ok (.aload_n 0, 1) := by decide +kernel
theorem s0_1044 {X : Nat × (Nat → Int32)} {v1 v2 v3 : Value} {l1 : Nat} {st : List Value} {im : IM} {rm : RM}  : evL X 1044 [.ref l1, v1, v2, v3] st im rm = evL X 1045 [.ref l1, v1, v2, v3] (.ref l1 :: st) (im) (rm) := evL_aload_n pm_m0 d0_1044 rfl rfl
theorem d0_1045 : decode code 1045 = .ok (.iload_n 3, 1) := by decide +kernel
theorem s0_1045 {X : Nat × (Nat → Int32)} {v0 v1 v2 : Value} {l1 : Int32} {st : List Value} {im : IM} {rm : RM}  : evL X 1045 [v0, v1, v2, .int l1] st im rm = evL X 1046 [v0, v1, v2, .int l1] (.int l1 :: st) (im) (rm) := evL_iload_n pm_m0 d0_1045 rfl rfl
theorem d0_1046 : decode code 1046 = .ok (.iconst 2, 1) := by decide +kernel
theorem s0_1046 {X : Nat × (Nat → Int32)} {v0 v1 v2 v3 : Value}  {st : List Value} {im : IM} {rm : RM}  : evL X 1046 [v0, v1, v2, v3] st im rm = evL X 1047 [v0, v1, v2, v3] (.int (nI 2) :: st) (im) (rm) := evL_iconst pm_m0 d0_1046 rfl rfl
theorem d0_1047 : decode code 1047 = .ok (.iadd, 1) := by decide +kernel
theorem s0_1047 {X : Nat × (Nat → Int32)} {v0 v1 v2 v3 : Value} {x : Int32} {y : Int32} {st : List Value} {im : IM} {rm : RM}  : evL X 1047 [v0, v1, v2, v3] (.int y :: .int x :: st) im rm = evL X 1048 [v0, v1, v2, v3] (.int (x + y) :: st) (im) (rm) := evL_iadd pm_m0 d0_1047 rfl
theorem d0_1048 : decode code 1048 = .ok (.iaload, 1) := by decide +kernel
theorem s0_1048 {X : Nat × (Nat → Int32)} {v0 v1 v2 v3 : Value} {i : Int32} {st : List Value} {im : IM} {rm : RM} (hk : kd 1000300 = 99) (hi : pm_in i X.1 = true) : evL X 1048 [v0, v1, v2, v3] (.int i :: .ref 1000300 :: st) im rm = evL X 1049 [v0, v1, v2, v3] (.int (X.2 i.toNatClampNeg) :: st) (im) (rm) := evL_sld pm_m0 rfl d0_1048 hk hi rfl
theorem d0_1049 : decode code 1049 = .ok (.aload_n 0, 1) := by decide +kernel
theorem s0_1049 {X : Nat × (Nat → Int32)} {v1 v2 v3 : Value} {l1 : Nat} {st : List Value} {im : IM} {rm : RM}  : evL X 1049 [.ref l1, v1, v2, v3] st im rm = evL X 1050 [.ref l1, v1, v2, v3] (.ref l1 :: st) (im) (rm) := evL_aload_n pm_m0 d0_1049 rfl rfl
theorem d0_1050 : decode code 1050 = .ok (.iload_n 3, 1) := by decide +kernel
theorem s0_1050 {X : Nat × (Nat → Int32)} {v0 v1 v2 : Value} {l1 : Int32} {st : List Value} {im : IM} {rm : RM}  : evL X 1050 [v0, v1, v2, .int l1] st im rm = evL X 1051 [v0, v1, v2, .int l1] (.int l1 :: st) (im) (rm) := evL_iload_n pm_m0 d0_1050 rfl rfl
theorem d0_1051 : decode code 1051 = .ok (.iconst 3, 1) := by decide +kernel
theorem s0_1051 {X : Nat × (Nat → Int32)} {v0 v1 v2 v3 : Value}  {st : List Value} {im : IM} {rm : RM}  : evL X 1051 [v0, v1, v2, v3] st im rm = evL X 1052 [v0, v1, v2, v3] (.int (nI 3) :: st) (im) (rm) := evL_iconst pm_m0 d0_1051 rfl rfl
theorem d0_1052 : decode code 1052 = .ok (.iadd, 1) := by decide +kernel
theorem s0_1052 {X : Nat × (Nat → Int32)} {v0 v1 v2 v3 : Value} {x : Int32} {y : Int32} {st : List Value} {im : IM} {rm : RM}  : evL X 1052 [v0, v1, v2, v3] (.int y :: .int x :: st) im rm = evL X 1053 [v0, v1, v2, v3] (.int (x + y) :: st) (im) (rm) := evL_iadd pm_m0 d0_1052 rfl
theorem d0_1053 : decode code 1053 = .ok (.iaload, 1) := by decide +kernel
theorem s0_1053 {X : Nat × (Nat → Int32)} {v0 v1 v2 v3 : Value} {i : Int32} {st : List Value} {im : IM} {rm : RM} (hk : kd 1000300 = 99) (hi : pm_in i X.1 = true) : evL X 1053 [v0, v1, v2, v3] (.int i :: .ref 1000300 :: st) im rm = evL X 1054 [v0, v1, v2, v3] (.int (X.2 i.toNatClampNeg) :: st) (im) (rm) := evL_sld pm_m0 rfl d0_1053 hk hi rfl
theorem d0_1054 : decode code 1054 = .ok (.invokevirtual 118, 3) := by decide +kernel
theorem s0_1054 {X : Nat × (Nat → Int32)} {v0 v1 v2 v3 : Value} {a : Nat} {p1 : Int32} {p2 : Int32} {p3 : Int32} {im : IM} {rm : RM} (hk : kd a = 17) : evL X 1054 [v0, v1, v2, v3] [.int p3, .int p2, .int p1, .ref a] im rm = (ev 65 0 [.ref a, .int p1, .int p2, .int p3, pm_u] [] im rm).bind (fun r => evL X 1057 [v0, v1, v2, v3] (r.1.toList ++ []) r.2.1 r.2.2) := evL_callV pm_m0 d0_1054 l9_118 rfl pm_m65 (by decide) hk rfl ⟨rfl, rfl⟩ rfl rfl
theorem d0_1057 : decode code 1057 = .ok (.aload_n 2, 1) := by decide +kernel
theorem s0_1057 {X : Nat × (Nat → Int32)} {v0 v1 v3 : Value} {l1 : Nat} {st : List Value} {im : IM} {rm : RM}  : evL X 1057 [v0, v1, .ref l1, v3] st im rm = evL X 1058 [v0, v1, .ref l1, v3] (.ref l1 :: st) (im) (rm) := evL_aload_n pm_m0 d0_1057 rfl rfl
theorem d0_1058 : decode code 1058 = .ok (.aload_n 0, 1) := by decide +kernel
theorem s0_1058 {X : Nat × (Nat → Int32)} {v1 v2 v3 : Value} {l1 : Nat} {st : List Value} {im : IM} {rm : RM}  : evL X 1058 [.ref l1, v1, v2, v3] st im rm = evL X 1059 [.ref l1, v1, v2, v3] (.ref l1 :: st) (im) (rm) := evL_aload_n pm_m0 d0_1058 rfl rfl
theorem d0_1059 : decode code 1059 = .ok (.iload_n 3, 1) := by decide +kernel
theorem s0_1059 {X : Nat × (Nat → Int32)} {v0 v1 v2 : Value} {l1 : Int32} {st : List Value} {im : IM} {rm : RM}  : evL X 1059 [v0, v1, v2, .int l1] st im rm = evL X 1060 [v0, v1, v2, .int l1] (.int l1 :: st) (im) (rm) := evL_iload_n pm_m0 d0_1059 rfl rfl
theorem d0_1060 : decode code 1060 = .ok (.iconst 1, 1) := by decide +kernel
theorem s0_1060 {X : Nat × (Nat → Int32)} {v0 v1 v2 v3 : Value}  {st : List Value} {im : IM} {rm : RM}  : evL X 1060 [v0, v1, v2, v3] st im rm = evL X 1061 [v0, v1, v2, v3] (.int (nI 1) :: st) (im) (rm) := evL_iconst pm_m0 d0_1060 rfl rfl
theorem d0_1061 : decode code 1061 = .ok (.iadd, 1) := by decide +kernel
theorem s0_1061 {X : Nat × (Nat → Int32)} {v0 v1 v2 v3 : Value} {x : Int32} {y : Int32} {st : List Value} {im : IM} {rm : RM}  : evL X 1061 [v0, v1, v2, v3] (.int y :: .int x :: st) im rm = evL X 1062 [v0, v1, v2, v3] (.int (x + y) :: st) (im) (rm) := evL_iadd pm_m0 d0_1061 rfl
theorem d0_1062 : decode code 1062 = .ok (.iaload, 1) := by decide +kernel
theorem s0_1062 {X : Nat × (Nat → Int32)} {v0 v1 v2 v3 : Value} {i : Int32} {st : List Value} {im : IM} {rm : RM} (hk : kd 1000300 = 99) (hi : pm_in i X.1 = true) : evL X 1062 [v0, v1, v2, v3] (.int i :: .ref 1000300 :: st) im rm = evL X 1063 [v0, v1, v2, v3] (.int (X.2 i.toNatClampNeg) :: st) (im) (rm) := evL_sld pm_m0 rfl d0_1062 hk hi rfl
theorem d0_1063 : decode code 1063 = .ok (.aload_n 0, 1) := by decide +kernel
theorem s0_1063 {X : Nat × (Nat → Int32)} {v1 v2 v3 : Value} {l1 : Nat} {st : List Value} {im : IM} {rm : RM}  : evL X 1063 [.ref l1, v1, v2, v3] st im rm = evL X 1064 [.ref l1, v1, v2, v3] (.ref l1 :: st) (im) (rm) := evL_aload_n pm_m0 d0_1063 rfl rfl
theorem d0_1064 : decode code 1064 = .ok (.iload_n 3, 1) := by decide +kernel
theorem s0_1064 {X : Nat × (Nat → Int32)} {v0 v1 v2 : Value} {l1 : Int32} {st : List Value} {im : IM} {rm : RM}  : evL X 1064 [v0, v1, v2, .int l1] st im rm = evL X 1065 [v0, v1, v2, .int l1] (.int l1 :: st) (im) (rm) := evL_iload_n pm_m0 d0_1064 rfl rfl
theorem d0_1065 : decode code 1065 = .ok (.iconst 2, 1) := by decide +kernel
theorem s0_1065 {X : Nat × (Nat → Int32)} {v0 v1 v2 v3 : Value}  {st : List Value} {im : IM} {rm : RM}  : evL X 1065 [v0, v1, v2, v3] st im rm = evL X 1066 [v0, v1, v2, v3] (.int (nI 2) :: st) (im) (rm) := evL_iconst pm_m0 d0_1065 rfl rfl
theorem d0_1066 : decode code 1066 = .ok (.iadd, 1) := by decide +kernel
theorem s0_1066 {X : Nat × (Nat → Int32)} {v0 v1 v2 v3 : Value} {x : Int32} {y : Int32} {st : List Value} {im : IM} {rm : RM}  : evL X 1066 [v0, v1, v2, v3] (.int y :: .int x :: st) im rm = evL X 1067 [v0, v1, v2, v3] (.int (x + y) :: st) (im) (rm) := evL_iadd pm_m0 d0_1066 rfl
theorem d0_1067 : decode code 1067 = .ok (.iaload, 1) := by decide +kernel
theorem s0_1067 {X : Nat × (Nat → Int32)} {v0 v1 v2 v3 : Value} {i : Int32} {st : List Value} {im : IM} {rm : RM} (hk : kd 1000300 = 99) (hi : pm_in i X.1 = true) : evL X 1067 [v0, v1, v2, v3] (.int i :: .ref 1000300 :: st) im rm = evL X 1068 [v0, v1, v2, v3] (.int (X.2 i.toNatClampNeg) :: st) (im) (rm) := evL_sld pm_m0 rfl d0_1067 hk hi rfl
theorem d0_1068 : decode code 1068 = .ok (.aload_n 0, 1) := by decide +kernel
theorem s0_1068 {X : Nat × (Nat → Int32)} {v1 v2 v3 : Value} {l1 : Nat} {st : List Value} {im : IM} {rm : RM}  : evL X 1068 [.ref l1, v1, v2, v3] st im rm = evL X 1069 [.ref l1, v1, v2, v3] (.ref l1 :: st) (im) (rm) := evL_aload_n pm_m0 d0_1068 rfl rfl
theorem d0_1069 : decode code 1069 = .ok (.iload_n 3, 1) := by decide +kernel
theorem s0_1069 {X : Nat × (Nat → Int32)} {v0 v1 v2 : Value} {l1 : Int32} {st : List Value} {im : IM} {rm : RM}  : evL X 1069 [v0, v1, v2, .int l1] st im rm = evL X 1070 [v0, v1, v2, .int l1] (.int l1 :: st) (im) (rm) := evL_iload_n pm_m0 d0_1069 rfl rfl
theorem d0_1070 : decode code 1070 = .ok (.iconst 3, 1) := by decide +kernel
theorem s0_1070 {X : Nat × (Nat → Int32)} {v0 v1 v2 v3 : Value}  {st : List Value} {im : IM} {rm : RM}  : evL X 1070 [v0, v1, v2, v3] st im rm = evL X 1071 [v0, v1, v2, v3] (.int (nI 3) :: st) (im) (rm) := evL_iconst pm_m0 d0_1070 rfl rfl
theorem d0_1071 : decode code 1071 = .ok (.iadd, 1) := by decide +kernel
theorem s0_1071 {X : Nat × (Nat → Int32)} {v0 v1 v2 v3 : Value} {x : Int32} {y : Int32} {st : List Value} {im : IM} {rm : RM}  : evL X 1071 [v0, v1, v2, v3] (.int y :: .int x :: st) im rm = evL X 1072 [v0, v1, v2, v3] (.int (x + y) :: st) (im) (rm) := evL_iadd pm_m0 d0_1071 rfl
theorem d0_1072 : decode code 1072 = .ok (.iaload, 1) := by decide +kernel
theorem s0_1072 {X : Nat × (Nat → Int32)} {v0 v1 v2 v3 : Value} {i : Int32} {st : List Value} {im : IM} {rm : RM} (hk : kd 1000300 = 99) (hi : pm_in i X.1 = true) : evL X 1072 [v0, v1, v2, v3] (.int i :: .ref 1000300 :: st) im rm = evL X 1073 [v0, v1, v2, v3] (.int (X.2 i.toNatClampNeg) :: st) (im) (rm) := evL_sld pm_m0 rfl d0_1072 hk hi rfl
theorem d0_1073 : decode code 1073 = .ok (.invokevirtual 121, 3) := by decide +kernel
theorem s0_1073 {X : Nat × (Nat → Int32)} {v0 v1 v2 v3 : Value} {a : Nat} {p1 : Int32} {p2 : Int32} {p3 : Int32} {r4 : Int32} {im : IM} {rm : RM} (hk : kd a = 18) : evL X 1073 [v0, v1, v2, v3] [.int p3, .int p2, .int p1, .ref a, .int r4] im rm = (ev 163 0 [.ref a, .int p1, .int p2, .int p3, pm_u] [] im rm).bind (fun r => evL X 1076 [v0, v1, v2, v3] (r.1.toList ++ [.int r4]) r.2.1 r.2.2) := evL_callV pm_m0 d0_1073 l9_121 rfl pm_m163 (by decide) hk rfl ⟨rfl, rfl⟩ rfl rfl
theorem d0_1076 : decode code 1076 = .ok (.if_icmp .eq 273, 3) := by decide +kernel
theorem s0_1076 {X : Nat × (Nat → Int32)} {v0 v1 v2 v3 : Value} {x : Int32} {y : Int32} {st : List Value} {im : IM} {rm : RM} : evL X 1076 [v0, v1, v2, v3] (.int y :: .int x :: st) im rm = if x = y then evL X 1349 [v0, v1, v2, v3] st im rm else evL X 1079 [v0, v1, v2, v3] st im rm := evL_icmp_eq pm_m0 d0_1076 rfl rfl rfl
theorem d0_1079 : decode code 1079 = .ok (.iconst 0, 1) := by decide +kernel
theorem s0_1079 {X : Nat × (Nat → Int32)} {v0 v1 v2 v3 : Value}  {st : List Value} {im : IM} {rm : RM}  : evL X 1079 [v0, v1, v2, v3] st im rm = evL X 1080 [v0, v1, v2, v3] (.int (nI 0) :: st) (im) (rm) := evL_iconst pm_m0 d0_1079 rfl rfl
theorem d0_1080 : decode code 1080 = .ok (.ireturn, 1) := by decide +kernel
theorem s0_1080 {X : Nat × (Nat → Int32)} {v0 v1 v2 v3 : Value} {x : Int32} {im : IM} {rm : RM} (hx : x = 0 ∨ x = 1) : evL X 1080 [v0, v1, v2, v3] [.int x] im rm = some (some (.int x), im, rm) := evL_zreturn pm_m0 d0_1080 rfl hx (by decide)
theorem d0_1081 : decode code 1081 = .ok (.aload_n 1, 1) := by decide +kernel
theorem s0_1081 {X : Nat × (Nat → Int32)} {v0 v2 v3 : Value} {l1 : Nat} {st : List Value} {im : IM} {rm : RM}  : evL X 1081 [v0, .ref l1, v2, v3] st im rm = evL X 1082 [v0, .ref l1, v2, v3] (.ref l1 :: st) (im) (rm) := evL_aload_n pm_m0 d0_1081 rfl rfl
theorem d0_1082 : decode code 1082 = .ok (.aload_n 0, 1) := by decide +kernel
theorem s0_1082 {X : Nat × (Nat → Int32)} {v1 v2 v3 : Value} {l1 : Nat} {st : List Value} {im : IM} {rm : RM}  : evL X 1082 [.ref l1, v1, v2, v3] st im rm = evL X 1083 [.ref l1, v1, v2, v3] (.ref l1 :: st) (im) (rm) := evL_aload_n pm_m0 d0_1082 rfl rfl
theorem d0_1083 : decode code 1083 = .ok (.iload_n 3, 1) := by decide +kernel
theorem s0_1083 {X : Nat × (Nat → Int32)} {v0 v1 v2 : Value} {l1 : Int32} {st : List Value} {im : IM} {rm : RM}  : evL X 1083 [v0, v1, v2, .int l1] st im rm = evL X 1084 [v0, v1, v2, .int l1] (.int l1 :: st) (im) (rm) := evL_iload_n pm_m0 d0_1083 rfl rfl
theorem d0_1084 : decode code 1084 = .ok (.iconst 1, 1) := by decide +kernel
theorem s0_1084 {X : Nat × (Nat → Int32)} {v0 v1 v2 v3 : Value}  {st : List Value} {im : IM} {rm : RM}  : evL X 1084 [v0, v1, v2, v3] st im rm = evL X 1085 [v0, v1, v2, v3] (.int (nI 1) :: st) (im) (rm) := evL_iconst pm_m0 d0_1084 rfl rfl
theorem d0_1085 : decode code 1085 = .ok (.iadd, 1) := by decide +kernel
theorem s0_1085 {X : Nat × (Nat → Int32)} {v0 v1 v2 v3 : Value} {x : Int32} {y : Int32} {st : List Value} {im : IM} {rm : RM}  : evL X 1085 [v0, v1, v2, v3] (.int y :: .int x :: st) im rm = evL X 1086 [v0, v1, v2, v3] (.int (x + y) :: st) (im) (rm) := evL_iadd pm_m0 d0_1085 rfl
theorem d0_1086 : decode code 1086 = .ok (.iaload, 1) := by decide +kernel
theorem s0_1086 {X : Nat × (Nat → Int32)} {v0 v1 v2 v3 : Value} {i : Int32} {st : List Value} {im : IM} {rm : RM} (hk : kd 1000300 = 99) (hi : pm_in i X.1 = true) : evL X 1086 [v0, v1, v2, v3] (.int i :: .ref 1000300 :: st) im rm = evL X 1087 [v0, v1, v2, v3] (.int (X.2 i.toNatClampNeg) :: st) (im) (rm) := evL_sld pm_m0 rfl d0_1086 hk hi rfl
theorem d0_1087 : decode code 1087 = .ok (.invokevirtual 122, 3) := by decide +kernel
theorem s0_1087 {X : Nat × (Nat → Int32)} {v0 v1 v2 v3 : Value} {a : Nat} {p1 : Int32} {im : IM} {rm : RM} (hk : kd a = 17) : evL X 1087 [v0, v1, v2, v3] [.int p1, .ref a] im rm = (ev 66 0 [.ref a, .int p1, pm_u, pm_u, pm_u, pm_u] [] im rm).bind (fun r => evL X 1090 [v0, v1, v2, v3] (r.1.toList ++ []) r.2.1 r.2.2) := evL_callV pm_m0 d0_1087 l9_122 rfl pm_m66 (by decide) hk rfl ⟨rfl, rfl⟩ rfl rfl
theorem d0_1090 : decode code 1090 = .ok (.aload_n 2, 1) := by decide +kernel
theorem s0_1090 {X : Nat × (Nat → Int32)} {v0 v1 v3 : Value} {l1 : Nat} {st : List Value} {im : IM} {rm : RM}  : evL X 1090 [v0, v1, .ref l1, v3] st im rm = evL X 1091 [v0, v1, .ref l1, v3] (.ref l1 :: st) (im) (rm) := evL_aload_n pm_m0 d0_1090 rfl rfl
theorem d0_1091 : decode code 1091 = .ok (.aload_n 0, 1) := by decide +kernel
theorem s0_1091 {X : Nat × (Nat → Int32)} {v1 v2 v3 : Value} {l1 : Nat} {st : List Value} {im : IM} {rm : RM}  : evL X 1091 [.ref l1, v1, v2, v3] st im rm = evL X 1092 [.ref l1, v1, v2, v3] (.ref l1 :: st) (im) (rm) := evL_aload_n pm_m0 d0_1091 rfl rfl
theorem d0_1092 : decode code 1092 = .ok (.iload_n 3, 1) := by decide +kernel
theorem s0_1092 {X : Nat × (Nat → Int32)} {v0 v1 v2 : Value} {l1 : Int32} {st : List Value} {im : IM} {rm : RM}  : evL X 1092 [v0, v1, v2, .int l1] st im rm = evL X 1093 [v0, v1, v2, .int l1] (.int l1 :: st) (im) (rm) := evL_iload_n pm_m0 d0_1092 rfl rfl
theorem d0_1093 : decode code 1093 = .ok (.iconst 1, 1) := by decide +kernel
theorem s0_1093 {X : Nat × (Nat → Int32)} {v0 v1 v2 v3 : Value}  {st : List Value} {im : IM} {rm : RM}  : evL X 1093 [v0, v1, v2, v3] st im rm = evL X 1094 [v0, v1, v2, v3] (.int (nI 1) :: st) (im) (rm) := evL_iconst pm_m0 d0_1093 rfl rfl
theorem d0_1094 : decode code 1094 = .ok (.iadd, 1) := by decide +kernel
theorem s0_1094 {X : Nat × (Nat → Int32)} {v0 v1 v2 v3 : Value} {x : Int32} {y : Int32} {st : List Value} {im : IM} {rm : RM}  : evL X 1094 [v0, v1, v2, v3] (.int y :: .int x :: st) im rm = evL X 1095 [v0, v1, v2, v3] (.int (x + y) :: st) (im) (rm) := evL_iadd pm_m0 d0_1094 rfl
theorem d0_1095 : decode code 1095 = .ok (.iaload, 1) := by decide +kernel
theorem s0_1095 {X : Nat × (Nat → Int32)} {v0 v1 v2 v3 : Value} {i : Int32} {st : List Value} {im : IM} {rm : RM} (hk : kd 1000300 = 99) (hi : pm_in i X.1 = true) : evL X 1095 [v0, v1, v2, v3] (.int i :: .ref 1000300 :: st) im rm = evL X 1096 [v0, v1, v2, v3] (.int (X.2 i.toNatClampNeg) :: st) (im) (rm) := evL_sld pm_m0 rfl d0_1095 hk hi rfl
theorem d0_1096 : decode code 1096 = .ok (.invokevirtual 125, 3) := by decide +kernel
theorem s0_1096 {X : Nat × (Nat → Int32)} {v0 v1 v2 v3 : Value} {a : Nat} {p1 : Int32} {r2 : Int32} {im : IM} {rm : RM} (hk : kd a = 18) : evL X 1096 [v0, v1, v2, v3] [.int p1, .ref a, .int r2] im rm = (ev 164 0 [.ref a, .int p1, pm_u, pm_u, pm_u] [] im rm).bind (fun r => evL X 1099 [v0, v1, v2, v3] (r.1.toList ++ [.int r2]) r.2.1 r.2.2) := evL_callV pm_m0 d0_1096 l9_125 rfl pm_m164 (by decide) hk rfl ⟨rfl, rfl⟩ rfl rfl
theorem d0_1099 : decode code 1099 = .ok (.if_icmp .eq 250, 3) := by decide +kernel
theorem s0_1099 {X : Nat × (Nat → Int32)} {v0 v1 v2 v3 : Value} {x : Int32} {y : Int32} {st : List Value} {im : IM} {rm : RM} : evL X 1099 [v0, v1, v2, v3] (.int y :: .int x :: st) im rm = if x = y then evL X 1349 [v0, v1, v2, v3] st im rm else evL X 1102 [v0, v1, v2, v3] st im rm := evL_icmp_eq pm_m0 d0_1099 rfl rfl rfl
theorem d0_1102 : decode code 1102 = .ok (.iconst 0, 1) := by decide +kernel
theorem s0_1102 {X : Nat × (Nat → Int32)} {v0 v1 v2 v3 : Value}  {st : List Value} {im : IM} {rm : RM}  : evL X 1102 [v0, v1, v2, v3] st im rm = evL X 1103 [v0, v1, v2, v3] (.int (nI 0) :: st) (im) (rm) := evL_iconst pm_m0 d0_1102 rfl rfl
theorem d0_1103 : decode code 1103 = .ok (.ireturn, 1) := by decide +kernel
theorem s0_1103 {X : Nat × (Nat → Int32)} {v0 v1 v2 v3 : Value} {x : Int32} {im : IM} {rm : RM} (hx : x = 0 ∨ x = 1) : evL X 1103 [v0, v1, v2, v3] [.int x] im rm = some (some (.int x), im, rm) := evL_zreturn pm_m0 d0_1103 rfl hx (by decide)
theorem d0_1104 : decode code 1104 = .ok (.aload_n 1, 1) := by decide +kernel
theorem s0_1104 {X : Nat × (Nat → Int32)} {v0 v2 v3 : Value} {l1 : Nat} {st : List Value} {im : IM} {rm : RM}  : evL X 1104 [v0, .ref l1, v2, v3] st im rm = evL X 1105 [v0, .ref l1, v2, v3] (.ref l1 :: st) (im) (rm) := evL_aload_n pm_m0 d0_1104 rfl rfl
theorem d0_1105 : decode code 1105 = .ok (.aload_n 0, 1) := by decide +kernel
theorem s0_1105 {X : Nat × (Nat → Int32)} {v1 v2 v3 : Value} {l1 : Nat} {st : List Value} {im : IM} {rm : RM}  : evL X 1105 [.ref l1, v1, v2, v3] st im rm = evL X 1106 [.ref l1, v1, v2, v3] (.ref l1 :: st) (im) (rm) := evL_aload_n pm_m0 d0_1105 rfl rfl
theorem d0_1106 : decode code 1106 = .ok (.iload_n 3, 1) := by decide +kernel
theorem s0_1106 {X : Nat × (Nat → Int32)} {v0 v1 v2 : Value} {l1 : Int32} {st : List Value} {im : IM} {rm : RM}  : evL X 1106 [v0, v1, v2, .int l1] st im rm = evL X 1107 [v0, v1, v2, .int l1] (.int l1 :: st) (im) (rm) := evL_iload_n pm_m0 d0_1106 rfl rfl
theorem d0_1107 : decode code 1107 = .ok (.iconst 1, 1) := by decide +kernel
theorem s0_1107 {X : Nat × (Nat → Int32)} {v0 v1 v2 v3 : Value}  {st : List Value} {im : IM} {rm : RM}  : evL X 1107 [v0, v1, v2, v3] st im rm = evL X 1108 [v0, v1, v2, v3] (.int (nI 1) :: st) (im) (rm) := evL_iconst pm_m0 d0_1107 rfl rfl
theorem d0_1108 : decode code 1108 = .ok (.iadd, 1) := by decide +kernel
theorem s0_1108 {X : Nat × (Nat → Int32)} {v0 v1 v2 v3 : Value} {x : Int32} {y : Int32} {st : List Value} {im : IM} {rm : RM}  : evL X 1108 [v0, v1, v2, v3] (.int y :: .int x :: st) im rm = evL X 1109 [v0, v1, v2, v3] (.int (x + y) :: st) (im) (rm) := evL_iadd pm_m0 d0_1108 rfl
theorem d0_1109 : decode code 1109 = .ok (.iaload, 1) := by decide +kernel
theorem s0_1109 {X : Nat × (Nat → Int32)} {v0 v1 v2 v3 : Value} {i : Int32} {st : List Value} {im : IM} {rm : RM} (hk : kd 1000300 = 99) (hi : pm_in i X.1 = true) : evL X 1109 [v0, v1, v2, v3] (.int i :: .ref 1000300 :: st) im rm = evL X 1110 [v0, v1, v2, v3] (.int (X.2 i.toNatClampNeg) :: st) (im) (rm) := evL_sld pm_m0 rfl d0_1109 hk hi rfl
theorem d0_1110 : decode code 1110 = .ok (.aload_n 0, 1) := by decide +kernel
theorem s0_1110 {X : Nat × (Nat → Int32)} {v1 v2 v3 : Value} {l1 : Nat} {st : List Value} {im : IM} {rm : RM}  : evL X 1110 [.ref l1, v1, v2, v3] st im rm = evL X 1111 [.ref l1, v1, v2, v3] (.ref l1 :: st) (im) (rm) := evL_aload_n pm_m0 d0_1110 rfl rfl
theorem d0_1111 : decode code 1111 = .ok (.iload_n 3, 1) := by decide +kernel
theorem s0_1111 {X : Nat × (Nat → Int32)} {v0 v1 v2 : Value} {l1 : Int32} {st : List Value} {im : IM} {rm : RM}  : evL X 1111 [v0, v1, v2, .int l1] st im rm = evL X 1112 [v0, v1, v2, .int l1] (.int l1 :: st) (im) (rm) := evL_iload_n pm_m0 d0_1111 rfl rfl
theorem d0_1112 : decode code 1112 = .ok (.iconst 2, 1) := by decide +kernel
theorem s0_1112 {X : Nat × (Nat → Int32)} {v0 v1 v2 v3 : Value}  {st : List Value} {im : IM} {rm : RM}  : evL X 1112 [v0, v1, v2, v3] st im rm = evL X 1113 [v0, v1, v2, v3] (.int (nI 2) :: st) (im) (rm) := evL_iconst pm_m0 d0_1112 rfl rfl
theorem d0_1113 : decode code 1113 = .ok (.iadd, 1) := by decide +kernel
theorem s0_1113 {X : Nat × (Nat → Int32)} {v0 v1 v2 v3 : Value} {x : Int32} {y : Int32} {st : List Value} {im : IM} {rm : RM}  : evL X 1113 [v0, v1, v2, v3] (.int y :: .int x :: st) im rm = evL X 1114 [v0, v1, v2, v3] (.int (x + y) :: st) (im) (rm) := evL_iadd pm_m0 d0_1113 rfl
theorem d0_1114 : decode code 1114 = .ok (.iaload, 1) := by decide +kernel
theorem s0_1114 {X : Nat × (Nat → Int32)} {v0 v1 v2 v3 : Value} {i : Int32} {st : List Value} {im : IM} {rm : RM} (hk : kd 1000300 = 99) (hi : pm_in i X.1 = true) : evL X 1114 [v0, v1, v2, v3] (.int i :: .ref 1000300 :: st) im rm = evL X 1115 [v0, v1, v2, v3] (.int (X.2 i.toNatClampNeg) :: st) (im) (rm) := evL_sld pm_m0 rfl d0_1114 hk hi rfl
theorem d0_1115 : decode code 1115 = .ok (.invokevirtual 126, 3) := by decide +kernel
theorem s0_1115 {X : Nat × (Nat → Int32)} {v0 v1 v2 v3 : Value} {a : Nat} {p1 : Int32} {p2 : Int32} {im : IM} {rm : RM} (hk : kd a = 17) : evL X 1115 [v0, v1, v2, v3] [.int p2, .int p1, .ref a] im rm = (ev 67 0 [.ref a, .int p1, .int p2, pm_u] [] im rm).bind (fun r => evL X 1118 [v0, v1, v2, v3] (r.1.toList ++ []) r.2.1 r.2.2) := evL_callV pm_m0 d0_1115 l9_126 rfl pm_m67 (by decide) hk rfl ⟨rfl, rfl⟩ rfl rfl
theorem d0_1118 : decode code 1118 = .ok (.aload_n 2, 1) := by decide +kernel
theorem s0_1118 {X : Nat × (Nat → Int32)} {v0 v1 v3 : Value} {l1 : Nat} {st : List Value} {im : IM} {rm : RM}  : evL X 1118 [v0, v1, .ref l1, v3] st im rm = evL X 1119 [v0, v1, .ref l1, v3] (.ref l1 :: st) (im) (rm) := evL_aload_n pm_m0 d0_1118 rfl rfl
theorem d0_1119 : decode code 1119 = .ok (.aload_n 0, 1) := by decide +kernel
theorem s0_1119 {X : Nat × (Nat → Int32)} {v1 v2 v3 : Value} {l1 : Nat} {st : List Value} {im : IM} {rm : RM}  : evL X 1119 [.ref l1, v1, v2, v3] st im rm = evL X 1120 [.ref l1, v1, v2, v3] (.ref l1 :: st) (im) (rm) := evL_aload_n pm_m0 d0_1119 rfl rfl
theorem d0_1120 : decode code 1120 = .ok (.iload_n 3, 1) := by decide +kernel
theorem s0_1120 {X : Nat × (Nat → Int32)} {v0 v1 v2 : Value} {l1 : Int32} {st : List Value} {im : IM} {rm : RM}  : evL X 1120 [v0, v1, v2, .int l1] st im rm = evL X 1121 [v0, v1, v2, .int l1] (.int l1 :: st) (im) (rm) := evL_iload_n pm_m0 d0_1120 rfl rfl
theorem d0_1121 : decode code 1121 = .ok (.iconst 1, 1) := by decide +kernel
theorem s0_1121 {X : Nat × (Nat → Int32)} {v0 v1 v2 v3 : Value}  {st : List Value} {im : IM} {rm : RM}  : evL X 1121 [v0, v1, v2, v3] st im rm = evL X 1122 [v0, v1, v2, v3] (.int (nI 1) :: st) (im) (rm) := evL_iconst pm_m0 d0_1121 rfl rfl
theorem d0_1122 : decode code 1122 = .ok (.iadd, 1) := by decide +kernel
theorem s0_1122 {X : Nat × (Nat → Int32)} {v0 v1 v2 v3 : Value} {x : Int32} {y : Int32} {st : List Value} {im : IM} {rm : RM}  : evL X 1122 [v0, v1, v2, v3] (.int y :: .int x :: st) im rm = evL X 1123 [v0, v1, v2, v3] (.int (x + y) :: st) (im) (rm) := evL_iadd pm_m0 d0_1122 rfl
theorem d0_1123 : decode code 1123 = .ok (.iaload, 1) := by decide +kernel
theorem s0_1123 {X : Nat × (Nat → Int32)} {v0 v1 v2 v3 : Value} {i : Int32} {st : List Value} {im : IM} {rm : RM} (hk : kd 1000300 = 99) (hi : pm_in i X.1 = true) : evL X 1123 [v0, v1, v2, v3] (.int i :: .ref 1000300 :: st) im rm = evL X 1124 [v0, v1, v2, v3] (.int (X.2 i.toNatClampNeg) :: st) (im) (rm) := evL_sld pm_m0 rfl d0_1123 hk hi rfl
theorem d0_1124 : decode code 1124 = .ok (.aload_n 0, 1) := by decide +kernel
theorem s0_1124 {X : Nat × (Nat → Int32)} {v1 v2 v3 : Value} {l1 : Nat} {st : List Value} {im : IM} {rm : RM}  : evL X 1124 [.ref l1, v1, v2, v3] st im rm = evL X 1125 [.ref l1, v1, v2, v3] (.ref l1 :: st) (im) (rm) := evL_aload_n pm_m0 d0_1124 rfl rfl
theorem d0_1125 : decode code 1125 = .ok (.iload_n 3, 1) := by decide +kernel
theorem s0_1125 {X : Nat × (Nat → Int32)} {v0 v1 v2 : Value} {l1 : Int32} {st : List Value} {im : IM} {rm : RM}  : evL X 1125 [v0, v1, v2, .int l1] st im rm = evL X 1126 [v0, v1, v2, .int l1] (.int l1 :: st) (im) (rm) := evL_iload_n pm_m0 d0_1125 rfl rfl
theorem d0_1126 : decode code 1126 = .ok (.iconst 2, 1) := by decide +kernel
theorem s0_1126 {X : Nat × (Nat → Int32)} {v0 v1 v2 v3 : Value}  {st : List Value} {im : IM} {rm : RM}  : evL X 1126 [v0, v1, v2, v3] st im rm = evL X 1127 [v0, v1, v2, v3] (.int (nI 2) :: st) (im) (rm) := evL_iconst pm_m0 d0_1126 rfl rfl
theorem d0_1127 : decode code 1127 = .ok (.iadd, 1) := by decide +kernel
theorem s0_1127 {X : Nat × (Nat → Int32)} {v0 v1 v2 v3 : Value} {x : Int32} {y : Int32} {st : List Value} {im : IM} {rm : RM}  : evL X 1127 [v0, v1, v2, v3] (.int y :: .int x :: st) im rm = evL X 1128 [v0, v1, v2, v3] (.int (x + y) :: st) (im) (rm) := evL_iadd pm_m0 d0_1127 rfl
theorem d0_1128 : decode code 1128 = .ok (.iaload, 1) := by decide +kernel
theorem s0_1128 {X : Nat × (Nat → Int32)} {v0 v1 v2 v3 : Value} {i : Int32} {st : List Value} {im : IM} {rm : RM} (hk : kd 1000300 = 99) (hi : pm_in i X.1 = true) : evL X 1128 [v0, v1, v2, v3] (.int i :: .ref 1000300 :: st) im rm = evL X 1129 [v0, v1, v2, v3] (.int (X.2 i.toNatClampNeg) :: st) (im) (rm) := evL_sld pm_m0 rfl d0_1128 hk hi rfl
theorem d0_1129 : decode code 1129 = .ok (.invokevirtual 129, 3) := by decide +kernel
theorem s0_1129 {X : Nat × (Nat → Int32)} {v0 v1 v2 v3 : Value} {a : Nat} {p1 : Int32} {p2 : Int32} {r3 : Int32} {im : IM} {rm : RM} (hk : kd a = 18) : evL X 1129 [v0, v1, v2, v3] [.int p2, .int p1, .ref a, .int r3] im rm = (ev 165 0 [.ref a, .int p1, .int p2, pm_u] [] im rm).bind (fun r => evL X 1132 [v0, v1, v2, v3] (r.1.toList ++ [.int r3]) r.2.1 r.2.2) := evL_callV pm_m0 d0_1129 l9_129 rfl pm_m165 (by decide) hk rfl ⟨rfl, rfl⟩ rfl rfl
theorem d0_1132 : decode code 1132 = .ok (.if_icmp .eq 217, 3) := by decide +kernel
theorem s0_1132 {X : Nat × (Nat → Int32)} {v0 v1 v2 v3 : Value} {x : Int32} {y : Int32} {st : List Value} {im : IM} {rm : RM} : evL X 1132 [v0, v1, v2, v3] (.int y :: .int x :: st) im rm = if x = y then evL X 1349 [v0, v1, v2, v3] st im rm else evL X 1135 [v0, v1, v2, v3] st im rm := evL_icmp_eq pm_m0 d0_1132 rfl rfl rfl
theorem d0_1135 : decode code 1135 = .ok (.iconst 0, 1) := by decide +kernel
theorem s0_1135 {X : Nat × (Nat → Int32)} {v0 v1 v2 v3 : Value}  {st : List Value} {im : IM} {rm : RM}  : evL X 1135 [v0, v1, v2, v3] st im rm = evL X 1136 [v0, v1, v2, v3] (.int (nI 0) :: st) (im) (rm) := evL_iconst pm_m0 d0_1135 rfl rfl
theorem d0_1136 : decode code 1136 = .ok (.ireturn, 1) := by decide +kernel
theorem s0_1136 {X : Nat × (Nat → Int32)} {v0 v1 v2 v3 : Value} {x : Int32} {im : IM} {rm : RM} (hx : x = 0 ∨ x = 1) : evL X 1136 [v0, v1, v2, v3] [.int x] im rm = some (some (.int x), im, rm) := evL_zreturn pm_m0 d0_1136 rfl hx (by decide)
theorem d0_1137 : decode code 1137 = .ok (.aload_n 1, 1) := by decide +kernel
theorem s0_1137 {X : Nat × (Nat → Int32)} {v0 v2 v3 : Value} {l1 : Nat} {st : List Value} {im : IM} {rm : RM}  : evL X 1137 [v0, .ref l1, v2, v3] st im rm = evL X 1138 [v0, .ref l1, v2, v3] (.ref l1 :: st) (im) (rm) := evL_aload_n pm_m0 d0_1137 rfl rfl
theorem d0_1138 : decode code 1138 = .ok (.aload_n 0, 1) := by decide +kernel
theorem s0_1138 {X : Nat × (Nat → Int32)} {v1 v2 v3 : Value} {l1 : Nat} {st : List Value} {im : IM} {rm : RM}  : evL X 1138 [.ref l1, v1, v2, v3] st im rm = evL X 1139 [.ref l1, v1, v2, v3] (.ref l1 :: st) (im) (rm) := evL_aload_n pm_m0 d0_1138 rfl rfl
theorem d0_1139 : decode code 1139 = .ok (.iload_n 3, 1) := by decide +kernel
theorem s0_1139 {X : Nat × (Nat → Int32)} {v0 v1 v2 : Value} {l1 : Int32} {st : List Value} {im : IM} {rm : RM}  : evL X 1139 [v0, v1, v2, .int l1] st im rm = evL X 1140 [v0, v1, v2, .int l1] (.int l1 :: st) (im) (rm) := evL_iload_n pm_m0 d0_1139 rfl rfl
theorem d0_1140 : decode code 1140 = .ok (.iconst 1, 1) := by decide +kernel
theorem s0_1140 {X : Nat × (Nat → Int32)} {v0 v1 v2 v3 : Value}  {st : List Value} {im : IM} {rm : RM}  : evL X 1140 [v0, v1, v2, v3] st im rm = evL X 1141 [v0, v1, v2, v3] (.int (nI 1) :: st) (im) (rm) := evL_iconst pm_m0 d0_1140 rfl rfl
theorem d0_1141 : decode code 1141 = .ok (.iadd, 1) := by decide +kernel
theorem s0_1141 {X : Nat × (Nat → Int32)} {v0 v1 v2 v3 : Value} {x : Int32} {y : Int32} {st : List Value} {im : IM} {rm : RM}  : evL X 1141 [v0, v1, v2, v3] (.int y :: .int x :: st) im rm = evL X 1142 [v0, v1, v2, v3] (.int (x + y) :: st) (im) (rm) := evL_iadd pm_m0 d0_1141 rfl
theorem d0_1142 : decode code 1142 = .ok (.iaload, 1) := by decide +kernel
theorem s0_1142 {X : Nat × (Nat → Int32)} {v0 v1 v2 v3 : Value} {i : Int32} {st : List Value} {im : IM} {rm : RM} (hk : kd 1000300 = 99) (hi : pm_in i X.1 = true) : evL X 1142 [v0, v1, v2, v3] (.int i :: .ref 1000300 :: st) im rm = evL X 1143 [v0, v1, v2, v3] (.int (X.2 i.toNatClampNeg) :: st) (im) (rm) := evL_sld pm_m0 rfl d0_1142 hk hi rfl
theorem d0_1143 : decode code 1143 = .ok (.aload_n 0, 1) := by decide +kernel
theorem s0_1143 {X : Nat × (Nat → Int32)} {v1 v2 v3 : Value} {l1 : Nat} {st : List Value} {im : IM} {rm : RM}  : evL X 1143 [.ref l1, v1, v2, v3] st im rm = evL X 1144 [.ref l1, v1, v2, v3] (.ref l1 :: st) (im) (rm) := evL_aload_n pm_m0 d0_1143 rfl rfl
theorem d0_1144 : decode code 1144 = .ok (.iload_n 3, 1) := by decide +kernel
theorem s0_1144 {X : Nat × (Nat → Int32)} {v0 v1 v2 : Value} {l1 : Int32} {st : List Value} {im : IM} {rm : RM}  : evL X 1144 [v0, v1, v2, .int l1] st im rm = evL X 1145 [v0, v1, v2, .int l1] (.int l1 :: st) (im) (rm) := evL_iload_n pm_m0 d0_1144 rfl rfl
theorem d0_1145 : decode code 1145 = .ok (.iconst 2, 1) := by decide +kernel
theorem s0_1145 {X : Nat × (Nat → Int32)} {v0 v1 v2 v3 : Value}  {st : List Value} {im : IM} {rm : RM}  : evL X 1145 [v0, v1, v2, v3] st im rm = evL X 1146 [v0, v1, v2, v3] (.int (nI 2) :: st) (im) (rm) := evL_iconst pm_m0 d0_1145 rfl rfl
theorem d0_1146 : decode code 1146 = .ok (.iadd, 1) := by decide +kernel
theorem s0_1146 {X : Nat × (Nat → Int32)} {v0 v1 v2 v3 : Value} {x : Int32} {y : Int32} {st : List Value} {im : IM} {rm : RM}  : evL X 1146 [v0, v1, v2, v3] (.int y :: .int x :: st) im rm = evL X 1147 [v0, v1, v2, v3] (.int (x + y) :: st) (im) (rm) := evL_iadd pm_m0 d0_1146 rfl
theorem d0_1147 : decode code 1147 = .ok (.iaload, 1) := by decide +kernel
theorem s0_1147 {X : Nat × (Nat → Int32)} {v0 v1 v2 v3 : Value} {i : Int32} {st : List Value} {im : IM} {rm : RM} (hk : kd 1000300 = 99) (hi : pm_in i X.1 = true) : evL X 1147 [v0, v1, v2, v3] (.int i :: .ref 1000300 :: st) im rm = evL X 1148 [v0, v1, v2, v3] (.int (X.2 i.toNatClampNeg) :: st) (im) (rm) := evL_sld pm_m0 rfl d0_1147 hk hi rfl
theorem d0_1148 : decode code 1148 = .ok (.invokevirtual 130, 3) := by decide +kernel
theorem s0_1148 {X : Nat × (Nat → Int32)} {v0 v1 v2 v3 : Value} {a : Nat} {p1 : Int32} {p2 : Int32} {im : IM} {rm : RM} (hk : kd a = 17) : evL X 1148 [v0, v1, v2, v3] [.int p2, .int p1, .ref a] im rm = (ev 68 0 [.ref a, .int p1, .int p2, pm_u, pm_u, pm_u, pm_u] [] im rm).bind (fun r => evL X 1151 [v0, v1, v2, v3] (r.1.toList ++ []) r.2.1 r.2.2) := evL_callV pm_m0 d0_1148 l9_130 rfl pm_m68 (by decide) hk rfl ⟨rfl, rfl⟩ rfl rfl
theorem d0_1151 : decode code 1151 = .ok (.aload_n 2, 1) := by decide +kernel
theorem s0_1151 {X : Nat × (Nat → Int32)} {v0 v1 v3 : Value} {l1 : Nat} {st : List Value} {im : IM} {rm : RM}  : evL X 1151 [v0, v1, .ref l1, v3] st im rm = evL X 1152 [v0, v1, .ref l1, v3] (.ref l1 :: st) (im) (rm) := evL_aload_n pm_m0 d0_1151 rfl rfl
theorem d0_1152 : decode code 1152 = .ok (.aload_n 0, 1) := by decide +kernel
theorem s0_1152 {X : Nat × (Nat → Int32)} {v1 v2 v3 : Value} {l1 : Nat} {st : List Value} {im : IM} {rm : RM}  : evL X 1152 [.ref l1, v1, v2, v3] st im rm = evL X 1153 [.ref l1, v1, v2, v3] (.ref l1 :: st) (im) (rm) := evL_aload_n pm_m0 d0_1152 rfl rfl
theorem d0_1153 : decode code 1153 = .ok (.iload_n 3, 1) := by decide +kernel
theorem s0_1153 {X : Nat × (Nat → Int32)} {v0 v1 v2 : Value} {l1 : Int32} {st : List Value} {im : IM} {rm : RM}  : evL X 1153 [v0, v1, v2, .int l1] st im rm = evL X 1154 [v0, v1, v2, .int l1] (.int l1 :: st) (im) (rm) := evL_iload_n pm_m0 d0_1153 rfl rfl
theorem d0_1154 : decode code 1154 = .ok (.iconst 1, 1) := by decide +kernel
theorem s0_1154 {X : Nat × (Nat → Int32)} {v0 v1 v2 v3 : Value}  {st : List Value} {im : IM} {rm : RM}  : evL X 1154 [v0, v1, v2, v3] st im rm = evL X 1155 [v0, v1, v2, v3] (.int (nI 1) :: st) (im) (rm) := evL_iconst pm_m0 d0_1154 rfl rfl
theorem d0_1155 : decode code 1155 = .ok (.iadd, 1) := by decide +kernel
theorem s0_1155 {X : Nat × (Nat → Int32)} {v0 v1 v2 v3 : Value} {x : Int32} {y : Int32} {st : List Value} {im : IM} {rm : RM}  : evL X 1155 [v0, v1, v2, v3] (.int y :: .int x :: st) im rm = evL X 1156 [v0, v1, v2, v3] (.int (x + y) :: st) (im) (rm) := evL_iadd pm_m0 d0_1155 rfl
theorem d0_1156 : decode code 1156 = .ok (.iaload, 1) := by decide +kernel
theorem s0_1156 {X : Nat × (Nat → Int32)} {v0 v1 v2 v3 : Value} {i : Int32} {st : List Value} {im : IM} {rm : RM} (hk : kd 1000300 = 99) (hi : pm_in i X.1 = true) : evL X 1156 [v0, v1, v2, v3] (.int i :: .ref 1000300 :: st) im rm = evL X 1157 [v0, v1, v2, v3] (.int (X.2 i.toNatClampNeg) :: st) (im) (rm) := evL_sld pm_m0 rfl d0_1156 hk hi rfl
theorem d0_1157 : decode code 1157 = .ok (.aload_n 0, 1) := by decide +kernel
theorem s0_1157 {X : Nat × (Nat → Int32)} {v1 v2 v3 : Value} {l1 : Nat} {st : List Value} {im : IM} {rm : RM}  : evL X 1157 [.ref l1, v1, v2, v3] st im rm = evL X 1158 [.ref l1, v1, v2, v3] (.ref l1 :: st) (im) (rm) := evL_aload_n pm_m0 d0_1157 rfl rfl
theorem d0_1158 : decode code 1158 = .ok (.iload_n 3, 1) := by decide +kernel
theorem s0_1158 {X : Nat × (Nat → Int32)} {v0 v1 v2 : Value} {l1 : Int32} {st : List Value} {im : IM} {rm : RM}  : evL X 1158 [v0, v1, v2, .int l1] st im rm = evL X 1159 [v0, v1, v2, .int l1] (.int l1 :: st) (im) (rm) := evL_iload_n pm_m0 d0_1158 rfl rfl
theorem d0_1159 : decode code 1159 = .ok (.iconst 2, 1) := by decide +kernel
theorem s0_1159 {X : Nat × (Nat → Int32)} {v0 v1 v2 v3 : Value}  {st : List Value} {im : IM} {rm : RM}  : evL X 1159 [v0, v1, v2, v3] st im rm = evL X 1160 [v0, v1, v2, v3] (.int (nI 2) :: st) (im) (rm) := evL_iconst pm_m0 d0_1159 rfl rfl
theorem d0_1160 : decode code 1160 = .ok (.iadd, 1) := by decide +kernel
theorem s0_1160 {X : Nat × (Nat → Int32)} {v0 v1 v2 v3 : Value} {x : Int32} {y : Int32} {st : List Value} {im : IM} {rm : RM}  : evL X 1160 [v0, v1, v2, v3] (.int y :: .int x :: st) im rm = evL X 1161 [v0, v1, v2, v3] (.int (x + y) :: st) (im) (rm) := evL_iadd pm_m0 d0_1160 rfl
theorem d0_1161 : decode code 1161 = .ok (.iaload, 1) := by decide +kernel
theorem s0_1161 {X : Nat × (Nat → Int32)} {v0 v1 v2 v3 : Value} {i : Int32} {st : List Value} {im : IM} {rm : RM} (hk : kd 1000300 = 99) (hi : pm_in i X.1 = true) : evL X 1161 [v0, v1, v2, v3] (.int i :: .ref 1000300 :: st) im rm = evL X 1162 [v0, v1, v2, v3] (.int (X.2 i.toNatClampNeg) :: st) (im) (rm) := evL_sld pm_m0 rfl d0_1161 hk hi rfl
theorem d0_1162 : decode code 1162 = .ok (.invokevirtual 133, 3) := by decide +kernel
theorem s0_1162 {X : Nat × (Nat → Int32)} {v0 v1 v2 v3 : Value} {a : Nat} {p1 : Int32} {p2 : Int32} {r3 : Int32} {im : IM} {rm : RM} (hk : kd a = 18) : evL X 1162 [v0, v1, v2, v3] [.int p2, .int p1, .ref a, .int r3] im rm = (ev 166 0 [.ref a, .int p1, .int p2, pm_u, pm_u, pm_u, pm_u, pm_u, pm_u, pm_u] [] im rm).bind (fun r => evL X 1165 [v0, v1, v2, v3] (r.1.toList ++ [.int r3]) r.2.1 r.2.2) := evL_callV pm_m0 d0_1162 l9_133 rfl pm_m166 (by decide) hk rfl ⟨rfl, rfl⟩ rfl rfl
theorem d0_1165 : decode code 1165 = .ok (.if_icmp .eq 184, 3) := by decide +kernel
theorem s0_1165 {X : Nat × (Nat → Int32)} {v0 v1 v2 v3 : Value} {x : Int32} {y : Int32} {st : List Value} {im : IM} {rm : RM} : evL X 1165 [v0, v1, v2, v3] (.int y :: .int x :: st) im rm = if x = y then evL X 1349 [v0, v1, v2, v3] st im rm else evL X 1168 [v0, v1, v2, v3] st im rm := evL_icmp_eq pm_m0 d0_1165 rfl rfl rfl
theorem d0_1168 : decode code 1168 = .ok (.iconst 0, 1) := by decide +kernel
theorem s0_1168 {X : Nat × (Nat → Int32)} {v0 v1 v2 v3 : Value}  {st : List Value} {im : IM} {rm : RM}  : evL X 1168 [v0, v1, v2, v3] st im rm = evL X 1169 [v0, v1, v2, v3] (.int (nI 0) :: st) (im) (rm) := evL_iconst pm_m0 d0_1168 rfl rfl
theorem d0_1169 : decode code 1169 = .ok (.ireturn, 1) := by decide +kernel
theorem s0_1169 {X : Nat × (Nat → Int32)} {v0 v1 v2 v3 : Value} {x : Int32} {im : IM} {rm : RM} (hx : x = 0 ∨ x = 1) : evL X 1169 [v0, v1, v2, v3] [.int x] im rm = some (some (.int x), im, rm) := evL_zreturn pm_m0 d0_1169 rfl hx (by decide)
theorem d0_1170 : decode code 1170 = .ok (.aload_n 1, 1) := by decide +kernel
theorem s0_1170 {X : Nat × (Nat → Int32)} {v0 v2 v3 : Value} {l1 : Nat} {st : List Value} {im : IM} {rm : RM}  : evL X 1170 [v0, .ref l1, v2, v3] st im rm = evL X 1171 [v0, .ref l1, v2, v3] (.ref l1 :: st) (im) (rm) := evL_aload_n pm_m0 d0_1170 rfl rfl
theorem d0_1171 : decode code 1171 = .ok (.aload_n 0, 1) := by decide +kernel
theorem s0_1171 {X : Nat × (Nat → Int32)} {v1 v2 v3 : Value} {l1 : Nat} {st : List Value} {im : IM} {rm : RM}  : evL X 1171 [.ref l1, v1, v2, v3] st im rm = evL X 1172 [.ref l1, v1, v2, v3] (.ref l1 :: st) (im) (rm) := evL_aload_n pm_m0 d0_1171 rfl rfl
theorem d0_1172 : decode code 1172 = .ok (.iload_n 3, 1) := by decide +kernel
theorem s0_1172 {X : Nat × (Nat → Int32)} {v0 v1 v2 : Value} {l1 : Int32} {st : List Value} {im : IM} {rm : RM}  : evL X 1172 [v0, v1, v2, .int l1] st im rm = evL X 1173 [v0, v1, v2, .int l1] (.int l1 :: st) (im) (rm) := evL_iload_n pm_m0 d0_1172 rfl rfl
theorem d0_1173 : decode code 1173 = .ok (.iconst 1, 1) := by decide +kernel
theorem s0_1173 {X : Nat × (Nat → Int32)} {v0 v1 v2 v3 : Value}  {st : List Value} {im : IM} {rm : RM}  : evL X 1173 [v0, v1, v2, v3] st im rm = evL X 1174 [v0, v1, v2, v3] (.int (nI 1) :: st) (im) (rm) := evL_iconst pm_m0 d0_1173 rfl rfl
theorem d0_1174 : decode code 1174 = .ok (.iadd, 1) := by decide +kernel
theorem s0_1174 {X : Nat × (Nat → Int32)} {v0 v1 v2 v3 : Value} {x : Int32} {y : Int32} {st : List Value} {im : IM} {rm : RM}  : evL X 1174 [v0, v1, v2, v3] (.int y :: .int x :: st) im rm = evL X 1175 [v0, v1, v2, v3] (.int (x + y) :: st) (im) (rm) := evL_iadd pm_m0 d0_1174 rfl
theorem d0_1175 : decode code 1175 = .ok (.iaload, 1) := by decide +kernel
theorem s0_1175 {X : Nat × (Nat → Int32)} {v0 v1 v2 v3 : Value} {i : Int32} {st : List Value} {im : IM} {rm : RM} (hk : kd 1000300 = 99) (hi : pm_in i X.1 = true) : evL X 1175 [v0, v1, v2, v3] (.int i :: .ref 1000300 :: st) im rm = evL X 1176 [v0, v1, v2, v3] (.int (X.2 i.toNatClampNeg) :: st) (im) (rm) := evL_sld pm_m0 rfl d0_1175 hk hi rfl
theorem d0_1176 : decode code 1176 = .ok (.invokevirtual 134, 3) := by decide +kernel
theorem s0_1176 {X : Nat × (Nat → Int32)} {v0 v1 v2 v3 : Value} {a : Nat} {p1 : Int32} {im : IM} {rm : RM} (hk : kd a = 17) : evL X 1176 [v0, v1, v2, v3] [.int p1, .ref a] im rm = (ev 69 0 [.ref a, .int p1] [] im rm).bind (fun r => evL X 1179 [v0, v1, v2, v3] (r.1.toList ++ []) r.2.1 r.2.2) := evL_callV pm_m0 d0_1176 l9_134 rfl pm_m69 (by decide) hk rfl ⟨rfl, rfl⟩ rfl rfl
theorem d0_1179 : decode code 1179 = .ok (.aload_n 2, 1) := by decide +kernel
theorem s0_1179 {X : Nat × (Nat → Int32)} {v0 v1 v3 : Value} {l1 : Nat} {st : List Value} {im : IM} {rm : RM}  : evL X 1179 [v0, v1, .ref l1, v3] st im rm = evL X 1180 [v0, v1, .ref l1, v3] (.ref l1 :: st) (im) (rm) := evL_aload_n pm_m0 d0_1179 rfl rfl
theorem d0_1180 : decode code 1180 = .ok (.aload_n 0, 1) := by decide +kernel
theorem s0_1180 {X : Nat × (Nat → Int32)} {v1 v2 v3 : Value} {l1 : Nat} {st : List Value} {im : IM} {rm : RM}  : evL X 1180 [.ref l1, v1, v2, v3] st im rm = evL X 1181 [.ref l1, v1, v2, v3] (.ref l1 :: st) (im) (rm) := evL_aload_n pm_m0 d0_1180 rfl rfl
theorem d0_1181 : decode code 1181 = .ok (.iload_n 3, 1) := by decide +kernel
theorem s0_1181 {X : Nat × (Nat → Int32)} {v0 v1 v2 : Value} {l1 : Int32} {st : List Value} {im : IM} {rm : RM}  : evL X 1181 [v0, v1, v2, .int l1] st im rm = evL X 1182 [v0, v1, v2, .int l1] (.int l1 :: st) (im) (rm) := evL_iload_n pm_m0 d0_1181 rfl rfl
theorem d0_1182 : decode code 1182 = .ok (.iconst 1, 1) := by decide +kernel
theorem s0_1182 {X : Nat × (Nat → Int32)} {v0 v1 v2 v3 : Value}  {st : List Value} {im : IM} {rm : RM}  : evL X 1182 [v0, v1, v2, v3] st im rm = evL X 1183 [v0, v1, v2, v3] (.int (nI 1) :: st) (im) (rm) := evL_iconst pm_m0 d0_1182 rfl rfl
theorem d0_1183 : decode code 1183 = .ok (.iadd, 1) := by decide +kernel
theorem s0_1183 {X : Nat × (Nat → Int32)} {v0 v1 v2 v3 : Value} {x : Int32} {y : Int32} {st : List Value} {im : IM} {rm : RM}  : evL X 1183 [v0, v1, v2, v3] (.int y :: .int x :: st) im rm = evL X 1184 [v0, v1, v2, v3] (.int (x + y) :: st) (im) (rm) := evL_iadd pm_m0 d0_1183 rfl
theorem d0_1184 : decode code 1184 = .ok (.iaload, 1) := by decide +kernel
theorem s0_1184 {X : Nat × (Nat → Int32)} {v0 v1 v2 v3 : Value} {i : Int32} {st : List Value} {im : IM} {rm : RM} (hk : kd 1000300 = 99) (hi : pm_in i X.1 = true) : evL X 1184 [v0, v1, v2, v3] (.int i :: .ref 1000300 :: st) im rm = evL X 1185 [v0, v1, v2, v3] (.int (X.2 i.toNatClampNeg) :: st) (im) (rm) := evL_sld pm_m0 rfl d0_1184 hk hi rfl
theorem d0_1185 : decode code 1185 = .ok (.invokevirtual 137, 3) := by decide +kernel
theorem s0_1185 {X : Nat × (Nat → Int32)} {v0 v1 v2 v3 : Value} {a : Nat} {p1 : Int32} {r2 : Int32} {im : IM} {rm : RM} (hk : kd a = 18) : evL X 1185 [v0, v1, v2, v3] [.int p1, .ref a, .int r2] im rm = (ev 167 0 [.ref a, .int p1] [] im rm).bind (fun r => evL X 1188 [v0, v1, v2, v3] (r.1.toList ++ [.int r2]) r.2.1 r.2.2) := evL_callV pm_m0 d0_1185 l9_137 rfl pm_m167 (by decide) hk rfl ⟨rfl, rfl⟩ rfl rfl
theorem d0_1188 : decode code 1188 = .ok (.if_icmp .eq 161, 3) := by decide +kernel
theorem s0_1188 {X : Nat × (Nat → Int32)} {v0 v1 v2 v3 : Value} {x : Int32} {y : Int32} {st : List Value} {im : IM} {rm : RM} : evL X 1188 [v0, v1, v2, v3] (.int y :: .int x :: st) im rm = if x = y then evL X 1349 [v0, v1, v2, v3] st im rm else evL X 1191 [v0, v1, v2, v3] st im rm := evL_icmp_eq pm_m0 d0_1188 rfl rfl rfl
theorem d0_1191 : decode code 1191 = .ok (.iconst 0, 1) := by decide +kernel
theorem s0_1191 {X : Nat × (Nat → Int32)} {v0 v1 v2 v3 : Value}  {st : List Value} {im : IM} {rm : RM}  : evL X 1191 [v0, v1, v2, v3] st im rm = evL X 1192 [v0, v1, v2, v3] (.int (nI 0) :: st) (im) (rm) := evL_iconst pm_m0 d0_1191 rfl rfl
theorem d0_1192 : decode code 1192 = .ok (.ireturn, 1) := by decide +kernel
theorem s0_1192 {X : Nat × (Nat → Int32)} {v0 v1 v2 v3 : Value} {x : Int32} {im : IM} {rm : RM} (hx : x = 0 ∨ x = 1) : evL X 1192 [v0, v1, v2, v3] [.int x] im rm = some (some (.int x), im, rm) := evL_zreturn pm_m0 d0_1192 rfl hx (by decide)
theorem d0_1193 : decode code 1193 = .ok (.aload_n 1, 1) := by decide +kernel
theorem s0_1193 {X : Nat × (Nat → Int32)} {v0 v2 v3 : Value} {l1 : Nat} {st : List Value} {im : IM} {rm : RM}  : evL X 1193 [v0, .ref l1, v2, v3] st im rm = evL X 1194 [v0, .ref l1, v2, v3] (.ref l1 :: st) (im) (rm) := evL_aload_n pm_m0 d0_1193 rfl rfl
theorem d0_1194 : decode code 1194 = .ok (.aload_n 0, 1) := by decide +kernel
theorem s0_1194 {X : Nat × (Nat → Int32)} {v1 v2 v3 : Value} {l1 : Nat} {st : List Value} {im : IM} {rm : RM}  : evL X 1194 [.ref l1, v1, v2, v3] st im rm = evL X 1195 [.ref l1, v1, v2, v3] (.ref l1 :: st) (im) (rm) := evL_aload_n pm_m0 d0_1194 rfl rfl
theorem d0_1195 : decode code 1195 = .ok (.iload_n 3, 1) := by decide +kernel
theorem s0_1195 {X : Nat × (Nat → Int32)} {v0 v1 v2 : Value} {l1 : Int32} {st : List Value} {im : IM} {rm : RM}  : evL X 1195 [v0, v1, v2, .int l1] st im rm = evL X 1196 [v0, v1, v2, .int l1] (.int l1 :: st) (im) (rm) := evL_iload_n pm_m0 d0_1195 rfl rfl
theorem d0_1196 : decode code 1196 = .ok (.iconst 1, 1) := by decide +kernel
theorem s0_1196 {X : Nat × (Nat → Int32)} {v0 v1 v2 v3 : Value}  {st : List Value} {im : IM} {rm : RM}  : evL X 1196 [v0, v1, v2, v3] st im rm = evL X 1197 [v0, v1, v2, v3] (.int (nI 1) :: st) (im) (rm) := evL_iconst pm_m0 d0_1196 rfl rfl
theorem d0_1197 : decode code 1197 = .ok (.iadd, 1) := by decide +kernel
theorem s0_1197 {X : Nat × (Nat → Int32)} {v0 v1 v2 v3 : Value} {x : Int32} {y : Int32} {st : List Value} {im : IM} {rm : RM}  : evL X 1197 [v0, v1, v2, v3] (.int y :: .int x :: st) im rm = evL X 1198 [v0, v1, v2, v3] (.int (x + y) :: st) (im) (rm) := evL_iadd pm_m0 d0_1197 rfl
theorem d0_1198 : decode code 1198 = .ok (.iaload, 1) := by decide +kernel
theorem s0_1198 {X : Nat × (Nat → Int32)} {v0 v1 v2 v3 : Value} {i : Int32} {st : List Value} {im : IM} {rm : RM} (hk : kd 1000300 = 99) (hi : pm_in i X.1 = true) : evL X 1198 [v0, v1, v2, v3] (.int i :: .ref 1000300 :: st) im rm = evL X 1199 [v0, v1, v2, v3] (.int (X.2 i.toNatClampNeg) :: st) (im) (rm) := evL_sld pm_m0 rfl d0_1198 hk hi rfl
theorem d0_1199 : decode code 1199 = .ok (.aload_n 0, 1) := by decide +kernel
theorem s0_1199 {X : Nat × (Nat → Int32)} {v1 v2 v3 : Value} {l1 : Nat} {st : List Value} {im : IM} {rm : RM}  : evL X 1199 [.ref l1, v1, v2, v3] st im rm = evL X 1200 [.ref l1, v1, v2, v3] (.ref l1 :: st) (im) (rm) := evL_aload_n pm_m0 d0_1199 rfl rfl
theorem d0_1200 : decode code 1200 = .ok (.iload_n 3, 1) := by decide +kernel
theorem s0_1200 {X : Nat × (Nat → Int32)} {v0 v1 v2 : Value} {l1 : Int32} {st : List Value} {im : IM} {rm : RM}  : evL X 1200 [v0, v1, v2, .int l1] st im rm = evL X 1201 [v0, v1, v2, .int l1] (.int l1 :: st) (im) (rm) := evL_iload_n pm_m0 d0_1200 rfl rfl
theorem d0_1201 : decode code 1201 = .ok (.iconst 2, 1) := by decide +kernel
theorem s0_1201 {X : Nat × (Nat → Int32)} {v0 v1 v2 v3 : Value}  {st : List Value} {im : IM} {rm : RM}  : evL X 1201 [v0, v1, v2, v3] st im rm = evL X 1202 [v0, v1, v2, v3] (.int (nI 2) :: st) (im) (rm) := evL_iconst pm_m0 d0_1201 rfl rfl
theorem d0_1202 : decode code 1202 = .ok (.iadd, 1) := by decide +kernel
theorem s0_1202 {X : Nat × (Nat → Int32)} {v0 v1 v2 v3 : Value} {x : Int32} {y : Int32} {st : List Value} {im : IM} {rm : RM}  : evL X 1202 [v0, v1, v2, v3] (.int y :: .int x :: st) im rm = evL X 1203 [v0, v1, v2, v3] (.int (x + y) :: st) (im) (rm) := evL_iadd pm_m0 d0_1202 rfl
theorem d0_1203 : decode code 1203 = .ok (.iaload, 1) := by decide +kernel
theorem s0_1203 {X : Nat × (Nat → Int32)} {v0 v1 v2 v3 : Value} {i : Int32} {st : List Value} {im : IM} {rm : RM} (hk : kd 1000300 = 99) (hi : pm_in i X.1 = true) : evL X 1203 [v0, v1, v2, v3] (.int i :: .ref 1000300 :: st) im rm = evL X 1204 [v0, v1, v2, v3] (.int (X.2 i.toNatClampNeg) :: st) (im) (rm) := evL_sld pm_m0 rfl d0_1203 hk hi rfl
theorem d0_1204 : decode code 1204 = .ok (.aload_n 0, 1) := by decide +kernel
theorem s0_1204 {X : Nat × (Nat → Int32)} {v1 v2 v3 : Value} {l1 : Nat} {st : List Value} {im : IM} {rm : RM}  : evL X 1204 [.ref l1, v1, v2, v3] st im rm = evL X 1205 [.ref l1, v1, v2, v3] (.ref l1 :: st) (im) (rm) := evL_aload_n pm_m0 d0_1204 rfl rfl
theorem d0_1205 : decode code 1205 = .ok (.iload_n 3, 1) := by decide +kernel
theorem s0_1205 {X : Nat × (Nat → Int32)} {v0 v1 v2 : Value} {l1 : Int32} {st : List Value} {im : IM} {rm : RM}  : evL X 1205 [v0, v1, v2, .int l1] st im rm = evL X 1206 [v0, v1, v2, .int l1] (.int l1 :: st) (im) (rm) := evL_iload_n pm_m0 d0_1205 rfl rfl
theorem d0_1206 : decode code 1206 = .ok (.iconst 3, 1) := by decide +kernel
theorem s0_1206 {X : Nat × (Nat → Int32)} {v0 v1 v2 v3 : Value}  {st : List Value} {im : IM} {rm : RM}  : evL X 1206 [v0, v1, v2, v3] st im rm = evL X 1207 [v0, v1, v2, v3] (.int (nI 3) :: st) (im) (rm) := evL_iconst pm_m0 d0_1206 rfl rfl
theorem d0_1207 : decode code 1207 = .ok (.iadd, 1) := by decide +kernel
theorem s0_1207 {X : Nat × (Nat → Int32)} {v0 v1 v2 v3 : Value} {x : Int32} {y : Int32} {st : List Value} {im : IM} {rm : RM}  : evL X 1207 [v0, v1, v2, v3] (.int y :: .int x :: st) im rm = evL X 1208 [v0, v1, v2, v3] (.int (x + y) :: st) (im) (rm) := evL_iadd pm_m0 d0_1207 rfl
theorem d0_1208 : decode code 1208 = .ok (.iaload, 1) := by decide +kernel
theorem s0_1208 {X : Nat × (Nat → Int32)} {v0 v1 v2 v3 : Value} {i : Int32} {st : List Value} {im : IM} {rm : RM} (hk : kd 1000300 = 99) (hi : pm_in i X.1 = true) : evL X 1208 [v0, v1, v2, v3] (.int i :: .ref 1000300 :: st) im rm = evL X 1209 [v0, v1, v2, v3] (.int (X.2 i.toNatClampNeg) :: st) (im) (rm) := evL_sld pm_m0 rfl d0_1208 hk hi rfl
theorem d0_1209 : decode code 1209 = .ok (.invokevirtual 138, 3) := by decide +kernel
theorem s0_1209 {X : Nat × (Nat → Int32)} {v0 v1 v2 v3 : Value} {a : Nat} {p1 : Int32} {p2 : Int32} {p3 : Int32} {im : IM} {rm : RM} (hk : kd a = 17) : evL X 1209 [v0, v1, v2, v3] [.int p3, .int p2, .int p1, .ref a] im rm = (ev 70 0 [.ref a, .int p1, .int p2, .int p3] [] im rm).bind (fun r => evL X 1212 [v0, v1, v2, v3] (r.1.toList ++ []) r.2.1 r.2.2) := evL_callV pm_m0 d0_1209 l9_138 rfl pm_m70 (by decide) hk rfl ⟨rfl, rfl⟩ rfl rfl
theorem d0_1212 : decode code 1212 = .ok (.aload_n 2, 1) := by decide +kernel
theorem s0_1212 {X : Nat × (Nat → Int32)} {v0 v1 v3 : Value} {l1 : Nat} {st : List Value} {im : IM} {rm : RM}  : evL X 1212 [v0, v1, .ref l1, v3] st im rm = evL X 1213 [v0, v1, .ref l1, v3] (.ref l1 :: st) (im) (rm) := evL_aload_n pm_m0 d0_1212 rfl rfl
theorem d0_1213 : decode code 1213 = .ok (.aload_n 0, 1) := by decide +kernel
theorem s0_1213 {X : Nat × (Nat → Int32)} {v1 v2 v3 : Value} {l1 : Nat} {st : List Value} {im : IM} {rm : RM}  : evL X 1213 [.ref l1, v1, v2, v3] st im rm = evL X 1214 [.ref l1, v1, v2, v3] (.ref l1 :: st) (im) (rm) := evL_aload_n pm_m0 d0_1213 rfl rfl
theorem d0_1214 : decode code 1214 = .ok (.iload_n 3, 1) := by decide +kernel
theorem s0_1214 {X : Nat × (Nat → Int32)} {v0 v1 v2 : Value} {l1 : Int32} {st : List Value} {im : IM} {rm : RM}  : evL X 1214 [v0, v1, v2, .int l1] st im rm = evL X 1215 [v0, v1, v2, .int l1] (.int l1 :: st) (im) (rm) := evL_iload_n pm_m0 d0_1214 rfl rfl
theorem d0_1215 : decode code 1215 = .ok (.iconst 1, 1) := by decide +kernel
theorem s0_1215 {X : Nat × (Nat → Int32)} {v0 v1 v2 v3 : Value}  {st : List Value} {im : IM} {rm : RM}  : evL X 1215 [v0, v1, v2, v3] st im rm = evL X 1216 [v0, v1, v2, v3] (.int (nI 1) :: st) (im) (rm) := evL_iconst pm_m0 d0_1215 rfl rfl
theorem d0_1216 : decode code 1216 = .ok (.iadd, 1) := by decide +kernel
theorem s0_1216 {X : Nat × (Nat → Int32)} {v0 v1 v2 v3 : Value} {x : Int32} {y : Int32} {st : List Value} {im : IM} {rm : RM}  : evL X 1216 [v0, v1, v2, v3] (.int y :: .int x :: st) im rm = evL X 1217 [v0, v1, v2, v3] (.int (x + y) :: st) (im) (rm) := evL_iadd pm_m0 d0_1216 rfl
theorem d0_1217 : decode code 1217 = .ok (.iaload, 1) := by decide +kernel
theorem s0_1217 {X : Nat × (Nat → Int32)} {v0 v1 v2 v3 : Value} {i : Int32} {st : List Value} {im : IM} {rm : RM} (hk : kd 1000300 = 99) (hi : pm_in i X.1 = true) : evL X 1217 [v0, v1, v2, v3] (.int i :: .ref 1000300 :: st) im rm = evL X 1218 [v0, v1, v2, v3] (.int (X.2 i.toNatClampNeg) :: st) (im) (rm) := evL_sld pm_m0 rfl d0_1217 hk hi rfl
theorem d0_1218 : decode code 1218 = .ok (.aload_n 0, 1) := by decide +kernel
theorem s0_1218 {X : Nat × (Nat → Int32)} {v1 v2 v3 : Value} {l1 : Nat} {st : List Value} {im : IM} {rm : RM}  : evL X 1218 [.ref l1, v1, v2, v3] st im rm = evL X 1219 [.ref l1, v1, v2, v3] (.ref l1 :: st) (im) (rm) := evL_aload_n pm_m0 d0_1218 rfl rfl
theorem d0_1219 : decode code 1219 = .ok (.iload_n 3, 1) := by decide +kernel
theorem s0_1219 {X : Nat × (Nat → Int32)} {v0 v1 v2 : Value} {l1 : Int32} {st : List Value} {im : IM} {rm : RM}  : evL X 1219 [v0, v1, v2, .int l1] st im rm = evL X 1220 [v0, v1, v2, .int l1] (.int l1 :: st) (im) (rm) := evL_iload_n pm_m0 d0_1219 rfl rfl
theorem d0_1220 : decode code 1220 = .ok (.iconst 2, 1) := by decide +kernel
theorem s0_1220 {X : Nat × (Nat → Int32)} {v0 v1 v2 v3 : Value}  {st : List Value} {im : IM} {rm : RM}  : evL X 1220 [v0, v1, v2, v3] st im rm = evL X 1221 [v0, v1, v2, v3] (.int (nI 2) :: st) (im) (rm) := evL_iconst pm_m0 d0_1220 rfl rfl
theorem d0_1221 : decode code 1221 = .ok (.iadd, 1) := by decide +kernel
theorem s0_1221 {X : Nat × (Nat → Int32)} {v0 v1 v2 v3 : Value} {x : Int32} {y : Int32} {st : List Value} {im : IM} {rm : RM}  : evL X 1221 [v0, v1, v2, v3] (.int y :: .int x :: st) im rm = evL X 1222 [v0, v1, v2, v3] (.int (x + y) :: st) (im) (rm) := evL_iadd pm_m0 d0_1221 rfl
theorem d0_1222 : decode code 1222 = .ok (.iaload, 1) := by decide +kernel
theorem s0_1222 {X : Nat × (Nat → Int32)} {v0 v1 v2 v3 : Value} {i : Int32} {st : List Value} {im : IM} {rm : RM} (hk : kd 1000300 = 99) (hi : pm_in i X.1 = true) : evL X 1222 [v0, v1, v2, v3] (.int i :: .ref 1000300 :: st) im rm = evL X 1223 [v0, v1, v2, v3] (.int (X.2 i.toNatClampNeg) :: st) (im) (rm) := evL_sld pm_m0 rfl d0_1222 hk hi rfl
theorem d0_1223 : decode code 1223 = .ok (.aload_n 0, 1) := by decide +kernel
theorem s0_1223 {X : Nat × (Nat → Int32)} {v1 v2 v3 : Value} {l1 : Nat} {st : List Value} {im : IM} {rm : RM}  : evL X 1223 [.ref l1, v1, v2, v3] st im rm = evL X 1224 [.ref l1, v1, v2, v3] (.ref l1 :: st) (im) (rm) := evL_aload_n pm_m0 d0_1223 rfl rfl
theorem d0_1224 : decode code 1224 = .ok (.iload_n 3, 1) := by decide +kernel
theorem s0_1224 {X : Nat × (Nat → Int32)} {v0 v1 v2 : Value} {l1 : Int32} {st : List Value} {im : IM} {rm : RM}  : evL X 1224 [v0, v1, v2, .int l1] st im rm = evL X 1225 [v0, v1, v2, .int l1] (.int l1 :: st) (im) (rm) := evL_iload_n pm_m0 d0_1224 rfl rfl
theorem d0_1225 : decode code 1225 = .ok (.iconst 3, 1) := by decide +kernel
theorem s0_1225 {X : Nat × (Nat → Int32)} {v0 v1 v2 v3 : Value}  {st : List Value} {im : IM} {rm : RM}  : evL X 1225 [v0, v1, v2, v3] st im rm = evL X 1226 [v0, v1, v2, v3] (.int (nI 3) :: st) (im) (rm) := evL_iconst pm_m0 d0_1225 rfl rfl
theorem d0_1226 : decode code 1226 = .ok (.iadd, 1) := by decide +kernel
theorem s0_1226 {X : Nat × (Nat → Int32)} {v0 v1 v2 v3 : Value} {x : Int32} {y : Int32} {st : List Value} {im : IM} {rm : RM}  : evL X 1226 [v0, v1, v2, v3] (.int y :: .int x :: st) im rm = evL X 1227 [v0, v1, v2, v3] (.int (x + y) :: st) (im) (rm) := evL_iadd pm_m0 d0_1226 rfl
theorem d0_1227 : decode code 1227 = .ok (.iaload, 1) := by decide +kernel
theorem s0_1227 {X : Nat × (Nat → Int32)} {v0 v1 v2 v3 : Value} {i : Int32} {st : List Value} {im : IM} {rm : RM} (hk : kd 1000300 = 99) (hi : pm_in i X.1 = true) : evL X 1227 [v0, v1, v2, v3] (.int i :: .ref 1000300 :: st) im rm = evL X 1228 [v0, v1, v2, v3] (.int (X.2 i.toNatClampNeg) :: st) (im) (rm) := evL_sld pm_m0 rfl d0_1227 hk hi rfl
theorem d0_1228 : decode code 1228 = .ok (.invokevirtual 141, 3) := by decide +kernel
theorem s0_1228 {X : Nat × (Nat → Int32)} {v0 v1 v2 v3 : Value} {a : Nat} {p1 : Int32} {p2 : Int32} {p3 : Int32} {r4 : Int32} {im : IM} {rm : RM} (hk : kd a = 18) : evL X 1228 [v0, v1, v2, v3] [.int p3, .int p2, .int p1, .ref a, .int r4] im rm = (ev 168 0 [.ref a, .int p1, .int p2, .int p3] [] im rm).bind (fun r => evL X 1231 [v0, v1, v2, v3] (r.1.toList ++ [.int r4]) r.2.1 r.2.2) := evL_callV pm_m0 d0_1228 l9_141 rfl pm_m168 (by decide) hk rfl ⟨rfl, rfl⟩ rfl rfl
theorem d0_1231 : decode code 1231 = .ok (.if_icmp .eq 118, 3) := by decide +kernel
theorem s0_1231 {X : Nat × (Nat → Int32)} {v0 v1 v2 v3 : Value} {x : Int32} {y : Int32} {st : List Value} {im : IM} {rm : RM} : evL X 1231 [v0, v1, v2, v3] (.int y :: .int x :: st) im rm = if x = y then evL X 1349 [v0, v1, v2, v3] st im rm else evL X 1234 [v0, v1, v2, v3] st im rm := evL_icmp_eq pm_m0 d0_1231 rfl rfl rfl
theorem d0_1234 : decode code 1234 = .ok (.iconst 0, 1) := by decide +kernel
theorem s0_1234 {X : Nat × (Nat → Int32)} {v0 v1 v2 v3 : Value}  {st : List Value} {im : IM} {rm : RM}  : evL X 1234 [v0, v1, v2, v3] st im rm = evL X 1235 [v0, v1, v2, v3] (.int (nI 0) :: st) (im) (rm) := evL_iconst pm_m0 d0_1234 rfl rfl
theorem d0_1235 : decode code 1235 = .ok (.ireturn, 1) := by decide +kernel
theorem s0_1235 {X : Nat × (Nat → Int32)} {v0 v1 v2 v3 : Value} {x : Int32} {im : IM} {rm : RM} (hx : x = 0 ∨ x = 1) : evL X 1235 [v0, v1, v2, v3] [.int x] im rm = some (some (.int x), im, rm) := evL_zreturn pm_m0 d0_1235 rfl hx (by decide)
theorem d0_1236 : decode code 1236 = .ok (.aload_n 1, 1) := by decide +kernel
theorem s0_1236 {X : Nat × (Nat → Int32)} {v0 v2 v3 : Value} {l1 : Nat} {st : List Value} {im : IM} {rm : RM}  : evL X 1236 [v0, .ref l1, v2, v3] st im rm = evL X 1237 [v0, .ref l1, v2, v3] (.ref l1 :: st) (im) (rm) := evL_aload_n pm_m0 d0_1236 rfl rfl
theorem d0_1237 : decode code 1237 = .ok (.aload_n 0, 1) := by decide +kernel
theorem s0_1237 {X : Nat × (Nat → Int32)} {v1 v2 v3 : Value} {l1 : Nat} {st : List Value} {im : IM} {rm : RM}  : evL X 1237 [.ref l1, v1, v2, v3] st im rm = evL X 1238 [.ref l1, v1, v2, v3] (.ref l1 :: st) (im) (rm) := evL_aload_n pm_m0 d0_1237 rfl rfl
theorem d0_1238 : decode code 1238 = .ok (.iload_n 3, 1) := by decide +kernel
theorem s0_1238 {X : Nat × (Nat → Int32)} {v0 v1 v2 : Value} {l1 : Int32} {st : List Value} {im : IM} {rm : RM}  : evL X 1238 [v0, v1, v2, .int l1] st im rm = evL X 1239 [v0, v1, v2, .int l1] (.int l1 :: st) (im) (rm) := evL_iload_n pm_m0 d0_1238 rfl rfl
theorem d0_1239 : decode code 1239 = .ok (.iconst 1, 1) := by decide +kernel
theorem s0_1239 {X : Nat × (Nat → Int32)} {v0 v1 v2 v3 : Value}  {st : List Value} {im : IM} {rm : RM}  : evL X 1239 [v0, v1, v2, v3] st im rm = evL X 1240 [v0, v1, v2, v3] (.int (nI 1) :: st) (im) (rm) := evL_iconst pm_m0 d0_1239 rfl rfl
theorem d0_1240 : decode code 1240 = .ok (.iadd, 1) := by decide +kernel
theorem s0_1240 {X : Nat × (Nat → Int32)} {v0 v1 v2 v3 : Value} {x : Int32} {y : Int32} {st : List Value} {im : IM} {rm : RM}  : evL X 1240 [v0, v1, v2, v3] (.int y :: .int x :: st) im rm = evL X 1241 [v0, v1, v2, v3] (.int (x + y) :: st) (im) (rm) := evL_iadd pm_m0 d0_1240 rfl
theorem d0_1241 : decode code 1241 = .ok (.iaload, 1) := by decide +kernel
theorem s0_1241 {X : Nat × (Nat → Int32)} {v0 v1 v2 v3 : Value} {i : Int32} {st : List Value} {im : IM} {rm : RM} (hk : kd 1000300 = 99) (hi : pm_in i X.1 = true) : evL X 1241 [v0, v1, v2, v3] (.int i :: .ref 1000300 :: st) im rm = evL X 1242 [v0, v1, v2, v3] (.int (X.2 i.toNatClampNeg) :: st) (im) (rm) := evL_sld pm_m0 rfl d0_1241 hk hi rfl
theorem d0_1242 : decode code 1242 = .ok (.invokevirtual 142, 3) := by decide +kernel
theorem s0_1242 {X : Nat × (Nat → Int32)} {v0 v1 v2 v3 : Value} {a : Nat} {p1 : Int32} {im : IM} {rm : RM} (hk : kd a = 17) : evL X 1242 [v0, v1, v2, v3] [.int p1, .ref a] im rm = (ev 71 0 [.ref a, .int p1] [] im rm).bind (fun r => evL X 1245 [v0, v1, v2, v3] (r.1.toList ++ []) r.2.1 r.2.2) := evL_callV pm_m0 d0_1242 l9_142 rfl pm_m71 (by decide) hk rfl ⟨rfl, rfl⟩ rfl rfl
theorem d0_1245 : decode code 1245 = .ok (.aload_n 2, 1) := by decide +kernel
theorem s0_1245 {X : Nat × (Nat → Int32)} {v0 v1 v3 : Value} {l1 : Nat} {st : List Value} {im : IM} {rm : RM}  : evL X 1245 [v0, v1, .ref l1, v3] st im rm = evL X 1246 [v0, v1, .ref l1, v3] (.ref l1 :: st) (im) (rm) := evL_aload_n pm_m0 d0_1245 rfl rfl
theorem d0_1246 : decode code 1246 = .ok (.aload_n 0, 1) := by decide +kernel
theorem s0_1246 {X : Nat × (Nat → Int32)} {v1 v2 v3 : Value} {l1 : Nat} {st : List Value} {im : IM} {rm : RM}  : evL X 1246 [.ref l1, v1, v2, v3] st im rm = evL X 1247 [.ref l1, v1, v2, v3] (.ref l1 :: st) (im) (rm) := evL_aload_n pm_m0 d0_1246 rfl rfl
theorem d0_1247 : decode code 1247 = .ok (.iload_n 3, 1) := by decide +kernel
theorem s0_1247 {X : Nat × (Nat → Int32)} {v0 v1 v2 : Value} {l1 : Int32} {st : List Value} {im : IM} {rm : RM}  : evL X 1247 [v0, v1, v2, .int l1] st im rm = evL X 1248 [v0, v1, v2, .int l1] (.int l1 :: st) (im) (rm) := evL_iload_n pm_m0 d0_1247 rfl rfl
theorem d0_1248 : decode code 1248 = .ok (.iconst 1, 1) := by decide +kernel
theorem s0_1248 {X : Nat × (Nat → Int32)} {v0 v1 v2 v3 : Value}  {st : List Value} {im : IM} {rm : RM}  : evL X 1248 [v0, v1, v2, v3] st im rm = evL X 1249 [v0, v1, v2, v3] (.int (nI 1) :: st) (im) (rm) := evL_iconst pm_m0 d0_1248 rfl rfl
theorem d0_1249 : decode code 1249 = .ok (.iadd, 1) := by decide +kernel
theorem s0_1249 {X : Nat × (Nat → Int32)} {v0 v1 v2 v3 : Value} {x : Int32} {y : Int32} {st : List Value} {im : IM} {rm : RM}  : evL X 1249 [v0, v1, v2, v3] (.int y :: .int x :: st) im rm = evL X 1250 [v0, v1, v2, v3] (.int (x + y) :: st) (im) (rm) := evL_iadd pm_m0 d0_1249 rfl
theorem d0_1250 : decode code 1250 = .ok (.iaload, 1) := by decide +kernel
theorem s0_1250 {X : Nat × (Nat → Int32)} {v0 v1 v2 v3 : Value} {i : Int32} {st : List Value} {im : IM} {rm : RM} (hk : kd 1000300 = 99) (hi : pm_in i X.1 = true) : evL X 1250 [v0, v1, v2, v3] (.int i :: .ref 1000300 :: st) im rm = evL X 1251 [v0, v1, v2, v3] (.int (X.2 i.toNatClampNeg) :: st) (im) (rm) := evL_sld pm_m0 rfl d0_1250 hk hi rfl
theorem d0_1251 : decode code 1251 = .ok (.invokevirtual 145, 3) := by decide +kernel
theorem s0_1251 {X : Nat × (Nat → Int32)} {v0 v1 v2 v3 : Value} {a : Nat} {p1 : Int32} {r2 : Int32} {im : IM} {rm : RM} (hk : kd a = 18) : evL X 1251 [v0, v1, v2, v3] [.int p1, .ref a, .int r2] im rm = (ev 169 0 [.ref a, .int p1] [] im rm).bind (fun r => evL X 1254 [v0, v1, v2, v3] (r.1.toList ++ [.int r2]) r.2.1 r.2.2) := evL_callV pm_m0 d0_1251 l9_145 rfl pm_m169 (by decide) hk rfl ⟨rfl, rfl⟩ rfl rfl
theorem d0_1254 : decode code 1254 = .ok (.if_icmp .eq 95, 3) := by decide +kernel
theorem s0_1254 {X : Nat × (Nat → Int32)} {v0 v1 v2 v3 : Value} {x : Int32} {y : Int32} {st : List Value} {im : IM} {rm : RM} : evL X 1254 [v0, v1, v2, v3] (.int y :: .int x :: st) im rm = if x = y then evL X 1349 [v0, v1, v2, v3] st im rm else evL X 1257 [v0, v1, v2, v3] st im rm := evL_icmp_eq pm_m0 d0_1254 rfl rfl rfl
theorem d0_1257 : decode code 1257 = .ok (.iconst 0, 1) := by decide +kernel
theorem s0_1257 {X : Nat × (Nat → Int32)} {v0 v1 v2 v3 : Value}  {st : List Value} {im : IM} {rm : RM}  : evL X 1257 [v0, v1, v2, v3] st im rm = evL X 1258 [v0, v1, v2, v3] (.int (nI 0) :: st) (im) (rm) := evL_iconst pm_m0 d0_1257 rfl rfl
theorem d0_1258 : decode code 1258 = .ok (.ireturn, 1) := by decide +kernel
theorem s0_1258 {X : Nat × (Nat → Int32)} {v0 v1 v2 v3 : Value} {x : Int32} {im : IM} {rm : RM} (hx : x = 0 ∨ x = 1) : evL X 1258 [v0, v1, v2, v3] [.int x] im rm = some (some (.int x), im, rm) := evL_zreturn pm_m0 d0_1258 rfl hx (by decide)
theorem d0_1259 : decode code 1259 = .ok (.aload_n 1, 1) := by decide +kernel
theorem s0_1259 {X : Nat × (Nat → Int32)} {v0 v2 v3 : Value} {l1 : Nat} {st : List Value} {im : IM} {rm : RM}  : evL X 1259 [v0, .ref l1, v2, v3] st im rm = evL X 1260 [v0, .ref l1, v2, v3] (.ref l1 :: st) (im) (rm) := evL_aload_n pm_m0 d0_1259 rfl rfl
theorem d0_1260 : decode code 1260 = .ok (.aload_n 0, 1) := by decide +kernel
theorem s0_1260 {X : Nat × (Nat → Int32)} {v1 v2 v3 : Value} {l1 : Nat} {st : List Value} {im : IM} {rm : RM}  : evL X 1260 [.ref l1, v1, v2, v3] st im rm = evL X 1261 [.ref l1, v1, v2, v3] (.ref l1 :: st) (im) (rm) := evL_aload_n pm_m0 d0_1260 rfl rfl
theorem d0_1261 : decode code 1261 = .ok (.iload_n 3, 1) := by decide +kernel
theorem s0_1261 {X : Nat × (Nat → Int32)} {v0 v1 v2 : Value} {l1 : Int32} {st : List Value} {im : IM} {rm : RM}  : evL X 1261 [v0, v1, v2, .int l1] st im rm = evL X 1262 [v0, v1, v2, .int l1] (.int l1 :: st) (im) (rm) := evL_iload_n pm_m0 d0_1261 rfl rfl
theorem d0_1262 : decode code 1262 = .ok (.iconst 1, 1) := by decide +kernel
theorem s0_1262 {X : Nat × (Nat → Int32)} {v0 v1 v2 v3 : Value}  {st : List Value} {im : IM} {rm : RM}  : evL X 1262 [v0, v1, v2, v3] st im rm = evL X 1263 [v0, v1, v2, v3] (.int (nI 1) :: st) (im) (rm) := evL_iconst pm_m0 d0_1262 rfl rfl
theorem d0_1263 : decode code 1263 = .ok (.iadd, 1) := by decide +kernel
theorem s0_1263 {X : Nat × (Nat → Int32)} {v0 v1 v2 v3 : Value} {x : Int32} {y : Int32} {st : List Value} {im : IM} {rm : RM}  : evL X 1263 [v0, v1, v2, v3] (.int y :: .int x :: st) im rm = evL X 1264 [v0, v1, v2, v3] (.int (x + y) :: st) (im) (rm) := evL_iadd pm_m0 d0_1263 rfl
theorem d0_1264 : decode code 1264 = .ok (.iaload, 1) := by decide +kernel
theorem s0_1264 {X : Nat × (Nat → Int32)} {v0 v1 v2 v3 : Value} {i : Int32} {st : List Value} {im : IM} {rm : RM} (hk : kd 1000300 = 99) (hi : pm_in i X.1 = true) : evL X 1264 [v0, v1, v2, v3] (.int i :: .ref 1000300 :: st) im rm = evL X 1265 [v0, v1, v2, v3] (.int (X.2 i.toNatClampNeg) :: st) (im) (rm) := evL_sld pm_m0 rfl d0_1264 hk hi rfl
theorem d0_1265 : decode code 1265 = .ok (.aload_n 0, 1) := by decide +kernel
theorem s0_1265 {X : Nat × (Nat → Int32)} {v1 v2 v3 : Value} {l1 : Nat} {st : List Value} {im : IM} {rm : RM}  : evL X 1265 [.ref l1, v1, v2, v3] st im rm = evL X 1266 [.ref l1, v1, v2, v3] (.ref l1 :: st) (im) (rm) := evL_aload_n pm_m0 d0_1265 rfl rfl
theorem d0_1266 : decode code 1266 = .ok (.iload_n 3, 1) := by decide +kernel
theorem s0_1266 {X : Nat × (Nat → Int32)} {v0 v1 v2 : Value} {l1 : Int32} {st : List Value} {im : IM} {rm : RM}  : evL X 1266 [v0, v1, v2, .int l1] st im rm = evL X 1267 [v0, v1, v2, .int l1] (.int l1 :: st) (im) (rm) := evL_iload_n pm_m0 d0_1266 rfl rfl
theorem d0_1267 : decode code 1267 = .ok (.iconst 2, 1) := by decide +kernel
theorem s0_1267 {X : Nat × (Nat → Int32)} {v0 v1 v2 v3 : Value}  {st : List Value} {im : IM} {rm : RM}  : evL X 1267 [v0, v1, v2, v3] st im rm = evL X 1268 [v0, v1, v2, v3] (.int (nI 2) :: st) (im) (rm) := evL_iconst pm_m0 d0_1267 rfl rfl
theorem d0_1268 : decode code 1268 = .ok (.iadd, 1) := by decide +kernel
theorem s0_1268 {X : Nat × (Nat → Int32)} {v0 v1 v2 v3 : Value} {x : Int32} {y : Int32} {st : List Value} {im : IM} {rm : RM}  : evL X 1268 [v0, v1, v2, v3] (.int y :: .int x :: st) im rm = evL X 1269 [v0, v1, v2, v3] (.int (x + y) :: st) (im) (rm) := evL_iadd pm_m0 d0_1268 rfl
theorem d0_1269 : decode code 1269 = .ok (.iaload, 1) := by decide +kernel
theorem s0_1269 {X : Nat × (Nat → Int32)} {v0 v1 v2 v3 : Value} {i : Int32} {st : List Value} {im : IM} {rm : RM} (hk : kd 1000300 = 99) (hi : pm_in i X.1 = true) : evL X 1269 [v0, v1, v2, v3] (.int i :: .ref 1000300 :: st) im rm = evL X 1270 [v0, v1, v2, v3] (.int (X.2 i.toNatClampNeg) :: st) (im) (rm) := evL_sld pm_m0 rfl d0_1269 hk hi rfl
theorem d0_1270 : decode code 1270 = .ok (.aload_n 0, 1) := by decide +kernel
theorem s0_1270 {X : Nat × (Nat → Int32)} {v1 v2 v3 : Value} {l1 : Nat} {st : List Value} {im : IM} {rm : RM}  : evL X 1270 [.ref l1, v1, v2, v3] st im rm = evL X 1271 [.ref l1, v1, v2, v3] (.ref l1 :: st) (im) (rm) := evL_aload_n pm_m0 d0_1270 rfl rfl
theorem d0_1271 : decode code 1271 = .ok (.iload_n 3, 1) := by decide +kernel
theorem s0_1271 {X : Nat × (Nat → Int32)} {v0 v1 v2 : Value} {l1 : Int32} {st : List Value} {im : IM} {rm : RM}  : evL X 1271 [v0, v1, v2, .int l1] st im rm = evL X 1272 [v0, v1, v2, .int l1] (.int l1 :: st) (im) (rm) := evL_iload_n pm_m0 d0_1271 rfl rfl
theorem d0_1272 : decode code 1272 = .ok (.iconst 3, 1) := by decide +kernel
theorem s0_1272 {X : Nat × (Nat → Int32)} {v0 v1 v2 v3 : Value}  {st : List Value} {im : IM} {rm : RM}  : evL X 1272 [v0, v1, v2, v3] st im rm = evL X 1273 [v0, v1, v2, v3] (.int (nI 3) :: st) (im) (rm) := evL_iconst pm_m0 d0_1272 rfl rfl
theorem d0_1273 : decode code 1273 = .ok (.iadd, 1) := by decide +kernel
theorem s0_1273 {X : Nat × (Nat → Int32)} {v0 v1 v2 v3 : Value} {x : Int32} {y : Int32} {st : List Value} {im : IM} {rm : RM}  : evL X 1273 [v0, v1, v2, v3] (.int y :: .int x :: st) im rm = evL X 1274 [v0, v1, v2, v3] (.int (x + y) :: st) (im) (rm) := evL_iadd pm_m0 d0_1273 rfl
theorem d0_1274 : decode code 1274 = .ok (.iaload, 1) := by decide +kernel
theorem s0_1274 {X : Nat × (Nat → Int32)} {v0 v1 v2 v3 : Value} {i : Int32} {st : List Value} {im : IM} {rm : RM} (hk : kd 1000300 = 99) (hi : pm_in i X.1 = true) : evL X 1274 [v0, v1, v2, v3] (.int i :: .ref 1000300 :: st) im rm = evL X 1275 [v0, v1, v2, v3] (.int (X.2 i.toNatClampNeg) :: st) (im) (rm) := evL_sld pm_m0 rfl d0_1274 hk hi rfl
theorem d0_1275 : decode code 1275 = .ok (.invokevirtual 146, 3) := by decide +kernel
theorem s0_1275 {X : Nat × (Nat → Int32)} {v0 v1 v2 v3 : Value} {a : Nat} {p1 : Int32} {p2 : Int32} {p3 : Int32} {im : IM} {rm : RM} (hk : kd a = 17) : evL X 1275 [v0, v1, v2, v3] [.int p3, .int p2, .int p1, .ref a] im rm = (ev 72 0 [.ref a, .int p1, .int p2, .int p3] [] im rm).bind (fun r => evL X 1278 [v0, v1, v2, v3] (r.1.toList ++ []) r.2.1 r.2.2) := evL_callV pm_m0 d0_1275 l9_146 rfl pm_m72 (by decide) hk rfl ⟨rfl, rfl⟩ rfl rfl
theorem d0_1278 : decode code 1278 = .ok (.aload_n 2, 1) := by decide +kernel
theorem s0_1278 {X : Nat × (Nat → Int32)} {v0 v1 v3 : Value} {l1 : Nat} {st : List Value} {im : IM} {rm : RM}  : evL X 1278 [v0, v1, .ref l1, v3] st im rm = evL X 1279 [v0, v1, .ref l1, v3] (.ref l1 :: st) (im) (rm) := evL_aload_n pm_m0 d0_1278 rfl rfl
theorem d0_1279 : decode code 1279 = .ok (.aload_n 0, 1) := by decide +kernel
theorem s0_1279 {X : Nat × (Nat → Int32)} {v1 v2 v3 : Value} {l1 : Nat} {st : List Value} {im : IM} {rm : RM}  : evL X 1279 [.ref l1, v1, v2, v3] st im rm = evL X 1280 [.ref l1, v1, v2, v3] (.ref l1 :: st) (im) (rm) := evL_aload_n pm_m0 d0_1279 rfl rfl
theorem d0_1280 : decode code 1280 = .ok (.iload_n 3, 1) := by decide +kernel
theorem s0_1280 {X : Nat × (Nat → Int32)} {v0 v1 v2 : Value} {l1 : Int32} {st : List Value} {im : IM} {rm : RM}  : evL X 1280 [v0, v1, v2, .int l1] st im rm = evL X 1281 [v0, v1, v2, .int l1] (.int l1 :: st) (im) (rm) := evL_iload_n pm_m0 d0_1280 rfl rfl
theorem d0_1281 : decode code 1281 = .ok (.iconst 1, 1) := by decide +kernel
theorem s0_1281 {X : Nat × (Nat → Int32)} {v0 v1 v2 v3 : Value}  {st : List Value} {im : IM} {rm : RM}  : evL X 1281 [v0, v1, v2, v3] st im rm = evL X 1282 [v0, v1, v2, v3] (.int (nI 1) :: st) (im) (rm) := evL_iconst pm_m0 d0_1281 rfl rfl
theorem d0_1282 : decode code 1282 = .ok (.iadd, 1) := by decide +kernel
theorem s0_1282 {X : Nat × (Nat → Int32)} {v0 v1 v2 v3 : Value} {x : Int32} {y : Int32} {st : List Value} {im : IM} {rm : RM}  : evL X 1282 [v0, v1, v2, v3] (.int y :: .int x :: st) im rm = evL X 1283 [v0, v1, v2, v3] (.int (x + y) :: st) (im) (rm) := evL_iadd pm_m0 d0_1282 rfl
theorem d0_1283 : decode code 1283 = .ok (.iaload, 1) := by decide +kernel
theorem s0_1283 {X : Nat × (Nat → Int32)} {v0 v1 v2 v3 : Value} {i : Int32} {st : List Value} {im : IM} {rm : RM} (hk : kd 1000300 = 99) (hi : pm_in i X.1 = true) : evL X 1283 [v0, v1, v2, v3] (.int i :: .ref 1000300 :: st) im rm = evL X 1284 [v0, v1, v2, v3] (.int (X.2 i.toNatClampNeg) :: st) (im) (rm) := evL_sld pm_m0 rfl d0_1283 hk hi rfl
theorem d0_1284 : decode code 1284 = .ok (.aload_n 0, 1) := by decide +kernel
theorem s0_1284 {X : Nat × (Nat → Int32)} {v1 v2 v3 : Value} {l1 : Nat} {st : List Value} {im : IM} {rm : RM}  : evL X 1284 [.ref l1, v1, v2, v3] st im rm = evL X 1285 [.ref l1, v1, v2, v3] (.ref l1 :: st) (im) (rm) := evL_aload_n pm_m0 d0_1284 rfl rfl
theorem d0_1285 : decode code 1285 = .ok (.iload_n 3, 1) := by decide +kernel
theorem s0_1285 {X : Nat × (Nat → Int32)} {v0 v1 v2 : Value} {l1 : Int32} {st : List Value} {im : IM} {rm : RM}  : evL X 1285 [v0, v1, v2, .int l1] st im rm = evL X 1286 [v0, v1, v2, .int l1] (.int l1 :: st) (im) (rm) := evL_iload_n pm_m0 d0_1285 rfl rfl
theorem d0_1286 : decode code 1286 = .ok (.iconst 2, 1) := by decide +kernel
theorem s0_1286 {X : Nat × (Nat → Int32)} {v0 v1 v2 v3 : Value}  {st : List Value} {im : IM} {rm : RM}  : evL X 1286 [v0, v1, v2, v3] st im rm = evL X 1287 [v0, v1, v2, v3] (.int (nI 2) :: st) (im) (rm) := evL_iconst pm_m0 d0_1286 rfl rfl
theorem d0_1287 : decode code 1287 = .ok (.iadd, 1) := by decide +kernel
theorem s0_1287 {X : Nat × (Nat → Int32)} {v0 v1 v2 v3 : Value} {x : Int32} {y : Int32} {st : List Value} {im : IM} {rm : RM}  : evL X 1287 [v0, v1, v2, v3] (.int y :: .int x :: st) im rm = evL X 1288 [v0, v1, v2, v3] (.int (x + y) :: st) (im) (rm) := evL_iadd pm_m0 d0_1287 rfl
theorem d0_1288 : decode code 1288 = .ok (.iaload, 1) := by decide +kernel
theorem s0_1288 {X : Nat × (Nat → Int32)} {v0 v1 v2 v3 : Value} {i : Int32} {st : List Value} {im : IM} {rm : RM} (hk : kd 1000300 = 99) (hi : pm_in i X.1 = true) : evL X 1288 [v0, v1, v2, v3] (.int i :: .ref 1000300 :: st) im rm = evL X 1289 [v0, v1, v2, v3] (.int (X.2 i.toNatClampNeg) :: st) (im) (rm) := evL_sld pm_m0 rfl d0_1288 hk hi rfl
theorem d0_1289 : decode code 1289 = .ok (.aload_n 0, 1) := by decide +kernel
theorem s0_1289 {X : Nat × (Nat → Int32)} {v1 v2 v3 : Value} {l1 : Nat} {st : List Value} {im : IM} {rm : RM}  : evL X 1289 [.ref l1, v1, v2, v3] st im rm = evL X 1290 [.ref l1, v1, v2, v3] (.ref l1 :: st) (im) (rm) := evL_aload_n pm_m0 d0_1289 rfl rfl
theorem d0_1290 : decode code 1290 = .ok (.iload_n 3, 1) := by decide +kernel
theorem s0_1290 {X : Nat × (Nat → Int32)} {v0 v1 v2 : Value} {l1 : Int32} {st : List Value} {im : IM} {rm : RM}  : evL X 1290 [v0, v1, v2, .int l1] st im rm = evL X 1291 [v0, v1, v2, .int l1] (.int l1 :: st) (im) (rm) := evL_iload_n pm_m0 d0_1290 rfl rfl
theorem d0_1291 : decode code 1291 = .ok (.iconst 3, 1) := by decide +kernel
theorem s0_1291 {X : Nat × (Nat → Int32)} {v0 v1 v2 v3 : Value}  {st : List Value} {im : IM} {rm : RM}  : evL X 1291 [v0, v1, v2, v3] st im rm = evL X 1292 [v0, v1, v2, v3] (.int (nI 3) :: st) (im) (rm) := evL_iconst pm_m0 d0_1291 rfl rfl
theorem d0_1292 : decode code 1292 = .ok (.iadd, 1) := by decide +kernel
theorem s0_1292 {X : Nat × (Nat → Int32)} {v0 v1 v2 v3 : Value} {x : Int32} {y : Int32} {st : List Value} {im : IM} {rm : RM}  : evL X 1292 [v0, v1, v2, v3] (.int y :: .int x :: st) im rm = evL X 1293 [v0, v1, v2, v3] (.int (x + y) :: st) (im) (rm) := evL_iadd pm_m0 d0_1292 rfl
theorem d0_1293 : decode code 1293 = .ok (.iaload, 1) := by decide +kernel
theorem s0_1293 {X : Nat × (Nat → Int32)} {v0 v1 v2 v3 : Value} {i : Int32} {st : List Value} {im : IM} {rm : RM} (hk : kd 1000300 = 99) (hi : pm_in i X.1 = true) : evL X 1293 [v0, v1, v2, v3] (.int i :: .ref 1000300 :: st) im rm = evL X 1294 [v0, v1, v2, v3] (.int (X.2 i.toNatClampNeg) :: st) (im) (rm) := evL_sld pm_m0 rfl d0_1293 hk hi rfl
theorem d0_1294 : decode code 1294 = .ok (.invokevirtual 149, 3) := by decide +kernel
theorem s0_1294 {X : Nat × (Nat → Int32)} {v0 v1 v2 v3 : Value} {a : Nat} {p1 : Int32} {p2 : Int32} {p3 : Int32} {r4 : Int32} {im : IM} {rm : RM} (hk : kd a = 18) : evL X 1294 [v0, v1, v2, v3] [.int p3, .int p2, .int p1, .ref a, .int r4] im rm = (ev 170 0 [.ref a, .int p1, .int p2, .int p3, pm_u, pm_u, pm_u] [] im rm).bind (fun r => evL X 1297 [v0, v1, v2, v3] (r.1.toList ++ [.int r4]) r.2.1 r.2.2) := evL_callV pm_m0 d0_1294 l9_149 rfl pm_m170 (by decide) hk rfl ⟨rfl, rfl⟩ rfl rfl
theorem d0_1297 : decode code 1297 = .ok (.if_icmp .eq 52, 3) := by decide +kernel
theorem s0_1297 {X : Nat × (Nat → Int32)} {v0 v1 v2 v3 : Value} {x : Int32} {y : Int32} {st : List Value} {im : IM} {rm : RM} : evL X 1297 [v0, v1, v2, v3] (.int y :: .int x :: st) im rm = if x = y then evL X 1349 [v0, v1, v2, v3] st im rm else evL X 1300 [v0, v1, v2, v3] st im rm := evL_icmp_eq pm_m0 d0_1297 rfl rfl rfl
theorem d0_1300 : decode code 1300 = .ok (.iconst 0, 1) := by decide +kernel
theorem s0_1300 {X : Nat × (Nat → Int32)} {v0 v1 v2 v3 : Value}  {st : List Value} {im : IM} {rm : RM}  : evL X 1300 [v0, v1, v2, v3] st im rm = evL X 1301 [v0, v1, v2, v3] (.int (nI 0) :: st) (im) (rm) := evL_iconst pm_m0 d0_1300 rfl rfl
theorem d0_1301 : decode code 1301 = .ok (.ireturn, 1) := by decide +kernel
theorem s0_1301 {X : Nat × (Nat → Int32)} {v0 v1 v2 v3 : Value} {x : Int32} {im : IM} {rm : RM} (hx : x = 0 ∨ x = 1) : evL X 1301 [v0, v1, v2, v3] [.int x] im rm = some (some (.int x), im, rm) := evL_zreturn pm_m0 d0_1301 rfl hx (by decide)
theorem d0_1302 : decode code 1302 = .ok (.aload_n 1, 1) := by decide +kernel
theorem s0_1302 {X : Nat × (Nat → Int32)} {v0 v2 v3 : Value} {l1 : Nat} {st : List Value} {im : IM} {rm : RM}  : evL X 1302 [v0, .ref l1, v2, v3] st im rm = evL X 1303 [v0, .ref l1, v2, v3] (.ref l1 :: st) (im) (rm) := evL_aload_n pm_m0 d0_1302 rfl rfl
theorem d0_1303 : decode code 1303 = .ok (.aload_n 0, 1) := by decide +kernel
theorem s0_1303 {X : Nat × (Nat → Int32)} {v1 v2 v3 : Value} {l1 : Nat} {st : List Value} {im : IM} {rm : RM}  : evL X 1303 [.ref l1, v1, v2, v3] st im rm = evL X 1304 [.ref l1, v1, v2, v3] (.ref l1 :: st) (im) (rm) := evL_aload_n pm_m0 d0_1303 rfl rfl
theorem d0_1304 : decode code 1304 = .ok (.iload_n 3, 1) := by decide +kernel
theorem s0_1304 {X : Nat × (Nat → Int32)} {v0 v1 v2 : Value} {l1 : Int32} {st : List Value} {im : IM} {rm : RM}  : evL X 1304 [v0, v1, v2, .int l1] st im rm = evL X 1305 [v0, v1, v2, .int l1] (.int l1 :: st) (im) (rm) := evL_iload_n pm_m0 d0_1304 rfl rfl
theorem d0_1305 : decode code 1305 = .ok (.iconst 1, 1) := by decide +kernel
theorem s0_1305 {X : Nat × (Nat → Int32)} {v0 v1 v2 v3 : Value}  {st : List Value} {im : IM} {rm : RM}  : evL X 1305 [v0, v1, v2, v3] st im rm = evL X 1306 [v0, v1, v2, v3] (.int (nI 1) :: st) (im) (rm) := evL_iconst pm_m0 d0_1305 rfl rfl
theorem d0_1306 : decode code 1306 = .ok (.iadd, 1) := by decide +kernel
theorem s0_1306 {X : Nat × (Nat → Int32)} {v0 v1 v2 v3 : Value} {x : Int32} {y : Int32} {st : List Value} {im : IM} {rm : RM}  : evL X 1306 [v0, v1, v2, v3] (.int y :: .int x :: st) im rm = evL X 1307 [v0, v1, v2, v3] (.int (x + y) :: st) (im) (rm) := evL_iadd pm_m0 d0_1306 rfl
theorem d0_1307 : decode code 1307 = .ok (.iaload, 1) := by decide +kernel
theorem s0_1307 {X : Nat × (Nat → Int32)} {v0 v1 v2 v3 : Value} {i : Int32} {st : List Value} {im : IM} {rm : RM} (hk : kd 1000300 = 99) (hi : pm_in i X.1 = true) : evL X 1307 [v0, v1, v2, v3] (.int i :: .ref 1000300 :: st) im rm = evL X 1308 [v0, v1, v2, v3] (.int (X.2 i.toNatClampNeg) :: st) (im) (rm) := evL_sld pm_m0 rfl d0_1307 hk hi rfl
theorem d0_1308 : decode code 1308 = .ok (.invokevirtual 150, 3) := by decide +kernel
theorem s0_1308 {X : Nat × (Nat → Int32)} {v0 v1 v2 v3 : Value} {a : Nat} {p1 : Int32} {im : IM} {rm : RM} (hk : kd a = 17) : evL X 1308 [v0, v1, v2, v3] [.int p1, .ref a] im rm = (ev 73 0 [.ref a, .int p1, pm_u, pm_u, pm_u, pm_u] [] im rm).bind (fun r => evL X 1311 [v0, v1, v2, v3] (r.1.toList ++ []) r.2.1 r.2.2) := evL_callV pm_m0 d0_1308 l9_150 rfl pm_m73 (by decide) hk rfl ⟨rfl, rfl⟩ rfl rfl
theorem d0_1311 : decode code 1311 = .ok (.aload_n 2, 1) := by decide +kernel
theorem s0_1311 {X : Nat × (Nat → Int32)} {v0 v1 v3 : Value} {l1 : Nat} {st : List Value} {im : IM} {rm : RM}  : evL X 1311 [v0, v1, .ref l1, v3] st im rm = evL X 1312 [v0, v1, .ref l1, v3] (.ref l1 :: st) (im) (rm) := evL_aload_n pm_m0 d0_1311 rfl rfl
theorem d0_1312 : decode code 1312 = .ok (.aload_n 0, 1) := by decide +kernel
theorem s0_1312 {X : Nat × (Nat → Int32)} {v1 v2 v3 : Value} {l1 : Nat} {st : List Value} {im : IM} {rm : RM}  : evL X 1312 [.ref l1, v1, v2, v3] st im rm = evL X 1313 [.ref l1, v1, v2, v3] (.ref l1 :: st) (im) (rm) := evL_aload_n pm_m0 d0_1312 rfl rfl
theorem d0_1313 : decode code 1313 = .ok (.iload_n 3, 1) := by decide +kernel
theorem s0_1313 {X : Nat × (Nat → Int32)} {v0 v1 v2 : Value} {l1 : Int32} {st : List Value} {im : IM} {rm : RM}  : evL X 1313 [v0, v1, v2, .int l1] st im rm = evL X 1314 [v0, v1, v2, .int l1] (.int l1 :: st) (im) (rm) := evL_iload_n pm_m0 d0_1313 rfl rfl
theorem d0_1314 : decode code 1314 = .ok (.iconst 1, 1) := by decide +kernel
theorem s0_1314 {X : Nat × (Nat → Int32)} {v0 v1 v2 v3 : Value}  {st : List Value} {im : IM} {rm : RM}  : evL X 1314 [v0, v1, v2, v3] st im rm = evL X 1315 [v0, v1, v2, v3] (.int (nI 1) :: st) (im) (rm) := evL_iconst pm_m0 d0_1314 rfl rfl
theorem d0_1315 : decode code 1315 = .ok (.iadd, 1) := by decide +kernel
theorem s0_1315 {X : Nat × (Nat → Int32)} {v0 v1 v2 v3 : Value} {x : Int32} {y : Int32} {st : List Value} {im : IM} {rm : RM}  : evL X 1315 [v0, v1, v2, v3] (.int y :: .int x :: st) im rm = evL X 1316 [v0, v1, v2, v3] (.int (x + y) :: st) (im) (rm) := evL_iadd pm_m0 d0_1315 rfl
theorem d0_1316 : decode code 1316 = .ok (.iaload, 1) := by decide +kernel
theorem s0_1316 {X : Nat × (Nat → Int32)} {v0 v1 v2 v3 : Value} {i : Int32} {st : List Value} {im : IM} {rm : RM} (hk : kd 1000300 = 99) (hi : pm_in i X.1 = true) : evL X 1316 [v0, v1, v2, v3] (.int i :: .ref 1000300 :: st) im rm = evL X 1317 [v0, v1, v2, v3] (.int (X.2 i.toNatClampNeg) :: st) (im) (rm) := evL_sld pm_m0 rfl d0_1316 hk hi rfl
theorem d0_1317 : decode code 1317 = .ok (.invokevirtual 154, 3) := by decide +kernel
theorem s0_1317 {X : Nat × (Nat → Int32)} {v0 v1 v2 v3 : Value} {a : Nat} {p1 : Int32} {r2 : Int64} {im : IM} {rm : RM} (hk : kd a = 18) : evL X 1317 [v0, v1, v2, v3] [.int p1, .ref a, .long r2] im rm = (ev 172 0 [.ref a, .int p1, pm_u, pm_u] [] im rm).bind (fun r => evL X 1320 [v0, v1, v2, v3] (r.1.toList ++ [.long r2]) r.2.1 r.2.2) := evL_callV pm_m0 d0_1317 l9_154 rfl pm_m172 (by decide) hk rfl ⟨rfl, rfl⟩ rfl rfl
theorem d0_1320 : decode code 1320 = .ok (.lcmp, 1) := by decide +kernel
theorem s0_1320 {X : Nat × (Nat → Int32)} {v0 v1 v2 v3 : Value} {x : Int64} {y : Int64} {st : List Value} {im : IM} {rm : RM}  : evL X 1320 [v0, v1, v2, v3] (.long y :: .long x :: st) im rm = evL X 1321 [v0, v1, v2, v3] (.int (lg_cmp x y) :: st) (im) (rm) := evL_lcmp pm_m0 d0_1320 rfl
theorem d0_1321 : decode code 1321 = .ok (.ifCond .eq 28, 3) := by decide +kernel
theorem s0_1321 {X : Nat × (Nat → Int32)} {v0 v1 v2 v3 : Value} {x : Int32} {st : List Value} {im : IM} {rm : RM} : evL X 1321 [v0, v1, v2, v3] (.int x :: st) im rm = if x = nI 0 then evL X 1349 [v0, v1, v2, v3] st im rm else evL X 1324 [v0, v1, v2, v3] st im rm := evL_if_eq (y := 0) pm_m0 d0_1321 rfl rfl rfl
theorem d0_1324 : decode code 1324 = .ok (.iconst 0, 1) := by decide +kernel
theorem s0_1324 {X : Nat × (Nat → Int32)} {v0 v1 v2 v3 : Value}  {st : List Value} {im : IM} {rm : RM}  : evL X 1324 [v0, v1, v2, v3] st im rm = evL X 1325 [v0, v1, v2, v3] (.int (nI 0) :: st) (im) (rm) := evL_iconst pm_m0 d0_1324 rfl rfl
theorem d0_1325 : decode code 1325 = .ok (.ireturn, 1) := by decide +kernel
theorem s0_1325 {X : Nat × (Nat → Int32)} {v0 v1 v2 v3 : Value} {x : Int32} {im : IM} {rm : RM} (hx : x = 0 ∨ x = 1) : evL X 1325 [v0, v1, v2, v3] [.int x] im rm = some (some (.int x), im, rm) := evL_zreturn pm_m0 d0_1325 rfl hx (by decide)
theorem d0_1326 : decode code 1326 = .ok (.aload_n 1, 1) := by decide +kernel
theorem s0_1326 {X : Nat × (Nat → Int32)} {v0 v2 v3 : Value} {l1 : Nat} {st : List Value} {im : IM} {rm : RM}  : evL X 1326 [v0, .ref l1, v2, v3] st im rm = evL X 1327 [v0, .ref l1, v2, v3] (.ref l1 :: st) (im) (rm) := evL_aload_n pm_m0 d0_1326 rfl rfl
theorem d0_1327 : decode code 1327 = .ok (.aload_n 0, 1) := by decide +kernel
theorem s0_1327 {X : Nat × (Nat → Int32)} {v1 v2 v3 : Value} {l1 : Nat} {st : List Value} {im : IM} {rm : RM}  : evL X 1327 [.ref l1, v1, v2, v3] st im rm = evL X 1328 [.ref l1, v1, v2, v3] (.ref l1 :: st) (im) (rm) := evL_aload_n pm_m0 d0_1327 rfl rfl
theorem d0_1328 : decode code 1328 = .ok (.iload_n 3, 1) := by decide +kernel
theorem s0_1328 {X : Nat × (Nat → Int32)} {v0 v1 v2 : Value} {l1 : Int32} {st : List Value} {im : IM} {rm : RM}  : evL X 1328 [v0, v1, v2, .int l1] st im rm = evL X 1329 [v0, v1, v2, .int l1] (.int l1 :: st) (im) (rm) := evL_iload_n pm_m0 d0_1328 rfl rfl
theorem d0_1329 : decode code 1329 = .ok (.iconst 1, 1) := by decide +kernel
theorem s0_1329 {X : Nat × (Nat → Int32)} {v0 v1 v2 v3 : Value}  {st : List Value} {im : IM} {rm : RM}  : evL X 1329 [v0, v1, v2, v3] st im rm = evL X 1330 [v0, v1, v2, v3] (.int (nI 1) :: st) (im) (rm) := evL_iconst pm_m0 d0_1329 rfl rfl
theorem d0_1330 : decode code 1330 = .ok (.iadd, 1) := by decide +kernel
theorem s0_1330 {X : Nat × (Nat → Int32)} {v0 v1 v2 v3 : Value} {x : Int32} {y : Int32} {st : List Value} {im : IM} {rm : RM}  : evL X 1330 [v0, v1, v2, v3] (.int y :: .int x :: st) im rm = evL X 1331 [v0, v1, v2, v3] (.int (x + y) :: st) (im) (rm) := evL_iadd pm_m0 d0_1330 rfl
theorem d0_1331 : decode code 1331 = .ok (.iaload, 1) := by decide +kernel
theorem s0_1331 {X : Nat × (Nat → Int32)} {v0 v1 v2 v3 : Value} {i : Int32} {st : List Value} {im : IM} {rm : RM} (hk : kd 1000300 = 99) (hi : pm_in i X.1 = true) : evL X 1331 [v0, v1, v2, v3] (.int i :: .ref 1000300 :: st) im rm = evL X 1332 [v0, v1, v2, v3] (.int (X.2 i.toNatClampNeg) :: st) (im) (rm) := evL_sld pm_m0 rfl d0_1331 hk hi rfl
theorem d0_1332 : decode code 1332 = .ok (.invokevirtual 155, 3) := by decide +kernel
theorem s0_1332 {X : Nat × (Nat → Int32)} {v0 v1 v2 v3 : Value} {a : Nat} {p1 : Int32} {im : IM} {rm : RM} (hk : kd a = 17) : evL X 1332 [v0, v1, v2, v3] [.int p1, .ref a] im rm = (ev 74 0 [.ref a, .int p1] [] im rm).bind (fun r => evL X 1335 [v0, v1, v2, v3] (r.1.toList ++ []) r.2.1 r.2.2) := evL_callV pm_m0 d0_1332 l9_155 rfl pm_m74 (by decide) hk rfl ⟨rfl, rfl⟩ rfl rfl
theorem d0_1335 : decode code 1335 = .ok (.aload_n 2, 1) := by decide +kernel
theorem s0_1335 {X : Nat × (Nat → Int32)} {v0 v1 v3 : Value} {l1 : Nat} {st : List Value} {im : IM} {rm : RM}  : evL X 1335 [v0, v1, .ref l1, v3] st im rm = evL X 1336 [v0, v1, .ref l1, v3] (.ref l1 :: st) (im) (rm) := evL_aload_n pm_m0 d0_1335 rfl rfl
theorem d0_1336 : decode code 1336 = .ok (.aload_n 0, 1) := by decide +kernel
theorem s0_1336 {X : Nat × (Nat → Int32)} {v1 v2 v3 : Value} {l1 : Nat} {st : List Value} {im : IM} {rm : RM}  : evL X 1336 [.ref l1, v1, v2, v3] st im rm = evL X 1337 [.ref l1, v1, v2, v3] (.ref l1 :: st) (im) (rm) := evL_aload_n pm_m0 d0_1336 rfl rfl
theorem d0_1337 : decode code 1337 = .ok (.iload_n 3, 1) := by decide +kernel
theorem s0_1337 {X : Nat × (Nat → Int32)} {v0 v1 v2 : Value} {l1 : Int32} {st : List Value} {im : IM} {rm : RM}  : evL X 1337 [v0, v1, v2, .int l1] st im rm = evL X 1338 [v0, v1, v2, .int l1] (.int l1 :: st) (im) (rm) := evL_iload_n pm_m0 d0_1337 rfl rfl
theorem d0_1338 : decode code 1338 = .ok (.iconst 1, 1) := by decide +kernel
theorem s0_1338 {X : Nat × (Nat → Int32)} {v0 v1 v2 v3 : Value}  {st : List Value} {im : IM} {rm : RM}  : evL X 1338 [v0, v1, v2, v3] st im rm = evL X 1339 [v0, v1, v2, v3] (.int (nI 1) :: st) (im) (rm) := evL_iconst pm_m0 d0_1338 rfl rfl
theorem d0_1339 : decode code 1339 = .ok (.iadd, 1) := by decide +kernel
theorem s0_1339 {X : Nat × (Nat → Int32)} {v0 v1 v2 v3 : Value} {x : Int32} {y : Int32} {st : List Value} {im : IM} {rm : RM}  : evL X 1339 [v0, v1, v2, v3] (.int y :: .int x :: st) im rm = evL X 1340 [v0, v1, v2, v3] (.int (x + y) :: st) (im) (rm) := evL_iadd pm_m0 d0_1339 rfl
theorem d0_1340 : decode code 1340 = .ok (.iaload, 1) := by decide +kernel
theorem s0_1340 {X : Nat × (Nat → Int32)} {v0 v1 v2 v3 : Value} {i : Int32} {st : List Value} {im : IM} {rm : RM} (hk : kd 1000300 = 99) (hi : pm_in i X.1 = true) : evL X 1340 [v0, v1, v2, v3] (.int i :: .ref 1000300 :: st) im rm = evL X 1341 [v0, v1, v2, v3] (.int (X.2 i.toNatClampNeg) :: st) (im) (rm) := evL_sld pm_m0 rfl d0_1340 hk hi rfl
theorem d0_1341 : decode code 1341 = .ok (.invokevirtual 158, 3) := by decide +kernel
theorem s0_1341 {X : Nat × (Nat → Int32)} {v0 v1 v2 v3 : Value} {a : Nat} {p1 : Int32} {r2 : Int32} {im : IM} {rm : RM} (hk : kd a = 18) : evL X 1341 [v0, v1, v2, v3] [.int p1, .ref a, .int r2] im rm = (ev 173 0 [.ref a, .int p1, pm_u, pm_u] [] im rm).bind (fun r => evL X 1344 [v0, v1, v2, v3] (r.1.toList ++ [.int r2]) r.2.1 r.2.2) := evL_callV pm_m0 d0_1341 l9_158 rfl pm_m173 (by decide) hk rfl ⟨rfl, rfl⟩ rfl rfl
theorem d0_1344 : decode code 1344 = .ok (.if_icmp .eq 5, 3) := by decide +kernel
theorem s0_1344 {X : Nat × (Nat → Int32)} {v0 v1 v2 v3 : Value} {x : Int32} {y : Int32} {st : List Value} {im : IM} {rm : RM} : evL X 1344 [v0, v1, v2, v3] (.int y :: .int x :: st) im rm = if x = y then evL X 1349 [v0, v1, v2, v3] st im rm else evL X 1347 [v0, v1, v2, v3] st im rm := evL_icmp_eq pm_m0 d0_1344 rfl rfl rfl
theorem d0_1347 : decode code 1347 = .ok (.iconst 0, 1) := by decide +kernel
theorem s0_1347 {X : Nat × (Nat → Int32)} {v0 v1 v2 v3 : Value}  {st : List Value} {im : IM} {rm : RM}  : evL X 1347 [v0, v1, v2, v3] st im rm = evL X 1348 [v0, v1, v2, v3] (.int (nI 0) :: st) (im) (rm) := evL_iconst pm_m0 d0_1347 rfl rfl
theorem d0_1348 : decode code 1348 = .ok (.ireturn, 1) := by decide +kernel
theorem s0_1348 {X : Nat × (Nat → Int32)} {v0 v1 v2 v3 : Value} {x : Int32} {im : IM} {rm : RM} (hx : x = 0 ∨ x = 1) : evL X 1348 [v0, v1, v2, v3] [.int x] im rm = some (some (.int x), im, rm) := evL_zreturn pm_m0 d0_1348 rfl hx (by decide)
theorem d0_1349 : decode code 1349 = .ok (.iinc 3 7, 3) := by decide +kernel
theorem s0_1349 {X : Nat × (Nat → Int32)} {v0 v1 : Value} {l1 : Nat} {l2 : Int32} {st : List Value} {im : IM} {rm : RM}  : evL X 1349 [v0, v1, .ref l1, .int l2] st im rm = evL X 1352 [v0, v1, .ref l1, .int (l2 + nI 7)] st (im) (rm) := evL_iinc pm_m0 d0_1349 rfl rfl rfl rfl
theorem d0_1352 : decode code 1352 = .ok (.goto (-1334), 3) := by decide +kernel
theorem s0_1352 {X : Nat × (Nat → Int32)} {v0 v1 v2 v3 : Value}  {st : List Value} {im : IM} {rm : RM}  : evL X 1352 [v0, v1, v2, v3] st im rm = evL X 18 [v0, v1, v2, v3] st (im) (rm) := evL_goto pm_m0 d0_1352 rfl rfl
theorem d0_1355 : decode code 1355 = .ok (.iconst 1, 1) := by decide +kernel
theorem s0_1355 {X : Nat × (Nat → Int32)} {v0 v1 v2 v3 : Value}  {st : List Value} {im : IM} {rm : RM}  : evL X 1355 [v0, v1, v2, v3] st im rm = evL X 1356 [v0, v1, v2, v3] (.int (nI 1) :: st) (im) (rm) := evL_iconst pm_m0 d0_1355 rfl rfl
theorem d0_1356 : decode code 1356 = .ok (.ireturn, 1) := by decide +kernel
theorem s0_1356 {X : Nat × (Nat → Int32)} {v0 v1 v2 v3 : Value} {x : Int32} {im : IM} {rm : RM} (hx : x = 0 ∨ x = 1) : evL X 1356 [v0, v1, v2, v3] [.int x] im rm = some (some (.int x), im, rm) := evL_zreturn pm_m0 d0_1356 rfl hx (by decide)
