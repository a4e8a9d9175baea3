-- needs: 68
/-! The start: what the constructors left. -/
def pp0 : Nat → Nat := fun v => ([99, 105, 111, 117, 23] : List Nat).getD v 0
def ll0 : Nat → Nat := fun v => ([123, 126, 29] : List Nat).getD v 0
def chkZ : List (Nat × Nat) := [(51, 0), (51, 1), (51, 2), (130, 0), (131, 0), (132, 0), (59, 0), (59, 1), (59, 2), (130, 1), (131, 1), (132, 1), (67, 0), (67, 1), (67, 2), (130, 2), (131, 2), (132, 2), (75, 0), (75, 1), (75, 2), (130, 3), (131, 3), (132, 3), (83, 0), (83, 1), (83, 2), (130, 4), (131, 4), (132, 4), (91, 0), (91, 1), (91, 2), (130, 5), (131, 5), (132, 5), (7, 0), (7, 1), (7, 2), (7, 3), (138, 0), (138, 1), (138, 2), (138, 3), (8, 0), (8, 1), (8, 2), (8, 3), (138, 4), (138, 5), (138, 6), (138, 7), (9, 0), (9, 1), (9, 2), (9, 3), (138, 8), (138, 9), (138, 10), (138, 11), (10, 0), (10, 1), (10, 2), (10, 3), (138, 12), (138, 13), (138, 14), (138, 15), (4, 0), (129, 11), (141, 0), (99, 0), (141, 1), (105, 0), (141, 2), (111, 0), (141, 3), (117, 0), (147, 0), (123, 0), (147, 1), (126, 0), (14, 0), (129, 24), (12, 0), (13, 0), (153, 0), (154, 0), (12, 1), (13, 1), (153, 1), (154, 1), (12, 2), (13, 2), (153, 2), (154, 2), (12, 3), (13, 3), (153, 3), (154, 3), (0, 10), (129, 28), (18, 0), (129, 33)]
def chkO : List (Nat × Nat) := [(51, 3), (59, 3), (67, 3), (75, 3), (83, 3), (91, 3), (155, 0), (155, 1), (155, 2), (155, 3), (155, 4), (155, 5)]
def chkR : List (Nat × Nat × Nat) := [(0, 0, 1), (0, 1, 2), (0, 2, 3), (0, 3, 4), (0, 4, 6), (0, 5, 11), (0, 6, 12), (0, 7, 13), (0, 8, 14), (0, 9, 18), (0, 11, 23), (0, 12, 29), (0, 13, 32), (0, 14, 38), (0, 15, 39), (0, 16, 44), (0, 17, 49), (0, 18, 50), (4, 1, 5), (14, 1, 15), (14, 2, 16), (14, 3, 17), (18, 1, 19), (18, 2, 20), (18, 3, 21), (18, 4, 22), (32, 0, 33), (32, 1, 34), (32, 2, 35), (32, 3, 36), (32, 4, 37), (1, 0, 51), (1, 1, 59), (1, 2, 67), (1, 3, 75), (1, 4, 83), (1, 5, 91), (2, 0, 99), (2, 1, 105), (2, 2, 111), (2, 3, 117), (3, 0, 123), (3, 1, 126), (6, 0, 7), (6, 1, 8), (6, 2, 9), (6, 3, 10), (39, 0, 40), (39, 1, 41), (39, 2, 42), (39, 3, 43), (44, 0, 45), (44, 1, 46), (44, 2, 47), (44, 3, 48), (51, 4, 52), (51, 5, 53), (51, 6, 54), (51, 7, 55), (51, 8, 56), (51, 9, 57), (51, 10, 58), (59, 4, 60), (59, 5, 61), (59, 6, 62), (59, 7, 63), (59, 8, 64), (59, 9, 65), (59, 10, 66), (67, 4, 68), (67, 5, 69), (67, 6, 70), (67, 7, 71), (67, 8, 72), (67, 9, 73), (67, 10, 74), (75, 4, 76), (75, 5, 77), (75, 6, 78), (75, 7, 79), (75, 8, 80), (75, 9, 81), (75, 10, 82), (83, 4, 84), (83, 5, 85), (83, 6, 86), (83, 7, 87), (83, 8, 88), (83, 9, 89), (83, 10, 90), (91, 4, 92), (91, 5, 93), (91, 6, 94), (91, 7, 95), (91, 8, 96), (91, 9, 97), (91, 10, 98), (99, 1, 100), (99, 2, 101), (99, 3, 102), (99, 4, 103), (99, 5, 104), (105, 1, 106), (105, 2, 107), (105, 3, 108), (105, 4, 109), (105, 5, 110), (111, 1, 112), (111, 2, 113), (111, 3, 114), (111, 4, 115), (111, 5, 116), (117, 1, 118), (117, 2, 119), (117, 3, 120), (117, 4, 121), (117, 5, 122), (23, 1, 24), (23, 2, 25), (23, 3, 26), (23, 4, 27), (23, 5, 28), (123, 1, 124), (123, 2, 125), (126, 1, 127), (126, 2, 128), (29, 1, 30), (29, 2, 31), (129, 0, 130), (129, 1, 131), (129, 2, 132), (129, 3, 133), (129, 4, 134), (129, 5, 135), (129, 6, 136), (129, 7, 137), (129, 8, 138), (129, 9, 139), (129, 10, 140), (129, 12, 141), (129, 13, 142), (129, 14, 143), (129, 15, 144), (129, 16, 145), (129, 17, 146), (129, 18, 147), (129, 19, 148), (129, 20, 149), (129, 21, 150), (129, 22, 151), (129, 23, 152), (129, 25, 153), (129, 26, 154), (129, 27, 155), (129, 29, 156), (129, 30, 157), (129, 31, 158), (129, 32, 159), (129, 38, 160), (129, 39, 161), (129, 40, 162), (129, 45, 163), (129, 46, 164), (129, 48, 165)]
def chkS : List Int32 := [1000, 100, 1000, 0]
set_option maxRecDepth 100000 in
theorem pm_ct6 : (chkZ.all (fun q => decide (pm_Mb.2.2.1 q.1 q.2 = nI 0)) && chkO.all (fun q => decide (pm_Mb.2.2.1 q.1 q.2 = nI 1)) && chkR.all (fun q => decide (pm_Mb.2.2.2 q.1 q.2.1 = some q.2.2)) && (List.range 4).all (fun i => decide (pm_Mb.2.2.1 11 i = chkS.getD i 0) && decide (pm_Mb.2.2.1 139 i = chkS.getD i 0))) = true := by decide +kernel
theorem pm_ct7 : ((chkZ.all (fun q => decide (pm_Mb.2.2.1 q.1 q.2 = nI 0)) = true ∧ chkO.all (fun q => decide (pm_Mb.2.2.1 q.1 q.2 = nI 1)) = true) ∧ chkR.all (fun q => decide (pm_Mb.2.2.2 q.1 q.2.1 = some q.2.2)) = true) ∧ (List.range 4).all (fun i => decide (pm_Mb.2.2.1 11 i = chkS.getD i 0) && decide (pm_Mb.2.2.1 139 i = chkS.getD i 0)) = true := by
  have q := pm_ct6
  rw [Bool.and_eq_true, Bool.and_eq_true, Bool.and_eq_true] at q
  exact q
theorem ciZ {a i : Nat} (h : (a, i) ∈ chkZ) : pm_MB.2.2.1 a i = nI 0 := by
  rw [pm_MB_eq]
  have r := List.all_eq_true.mp pm_ct7.1.1.1 _ h
  simp only [decide_eq_true_eq] at r
  exact r
theorem ciO {a i : Nat} (h : (a, i) ∈ chkO) : pm_MB.2.2.1 a i = nI 1 := by
  rw [pm_MB_eq]
  have r := List.all_eq_true.mp pm_ct7.1.1.2 _ h
  simp only [decide_eq_true_eq] at r
  exact r
theorem ciR {a i b : Nat} (h : (a, i, b) ∈ chkR) : pm_MB.2.2.2 a i = some b := by
  rw [pm_MB_eq]
  have r := List.all_eq_true.mp pm_ct7.1.2 _ h
  simp only [decide_eq_true_eq] at r
  exact r
theorem ciS {i : Nat} (h : i < 4) : pm_MB.2.2.1 11 i = chkS.getD i 0 ∧ pm_MB.2.2.1 139 i = chkS.getD i 0 := by
  rw [pm_MB_eq]
  have r := List.all_eq_true.mp pm_ct7.2 i (List.mem_range.mpr h)
  simp only [Bool.and_eq_true, decide_eq_true_eq] at r
  exact r
theorem zd1 : ∀ d, d < 6 → ∀ j, j < 3 → (dr d, j) ∈ chkZ := by decide +kernel
theorem zd2 : ∀ d, d < 6 → (130, d) ∈ chkZ ∧ (131, d) ∈ chkZ ∧ (132, d) ∈ chkZ := by decide +kernel
theorem zd3 : ∀ d, d < 6 → (dr d, 3) ∈ chkO ∧ (155, d) ∈ chkO := by decide +kernel
theorem in_d : ∀ d, d < 6 → ID pm_MB.2.2.1 d := by
  intro d hd
  have a0 := zd1 d hd 0 (by decide)
  have a1 := zd1 d hd 1 (by decide)
  have a2 := zd1 d hd 2 (by decide)
  obtain ⟨b0, b1, b2⟩ := zd2 d hd
  obtain ⟨a3, b3⟩ := zd3 d hd
  have e : tk pm_MB.2.2.1 d = 0 := by unfold tk; rw [ciZ b2, nI_clamp (by decide)]
  refine ⟨?_, ?_, ?_, ?_, ?_, ?_, ?_, ?_, ?_, ?_, ?_⟩
  · rw [ciZ a0, ciZ b0]
  · rw [ciZ a1, ciZ b1]
  · rw [ciZ a2, e]
  · rw [ciO a3, ciO b3]
  · rw [ciZ b0]; decide
  · rw [ciZ b1]; decide
  · rw [ciO b3]; decide
  · rw [ciZ b2, e]
  · omega
  · intro t ht; omega
  · intro t ht; omega
theorem in_s : IS pm_MB.2.2.1 := by
  refine ⟨fun i hi => by rw [(ciS hi).1, (ciS hi).2], ?_, ?_, ?_, ?_⟩
  · rw [(ciS (show 0 < 4 by decide)).2]; decide
  · rw [(ciS (show 1 < 4 by decide)).2]; decide
  · rw [(ciS (show 2 < 4 by decide)).2]; decide
  · rw [(ciS (show 3 < 4 by decide)).2]; decide
theorem zo : ∀ m, m < 4 → ∀ c, c < 4 → (7 + m, c) ∈ chkZ ∧ (138, 4 * m + c) ∈ chkZ := by decide +kernel
theorem in_o : IDo pm_MB.2.2.1 := by
  intro m c hm hc
  obtain ⟨a, b⟩ := zo m hm c hc
  rw [ciZ a, ciZ b]
  exact ⟨rfl, by decide⟩
theorem zt : ((4, 0) ∈ chkZ ∧ (129, 11) ∈ chkZ) ∧ ((14, 0) ∈ chkZ ∧ (129, 24) ∈ chkZ) ∧ ((0, 10) ∈ chkZ ∧ (129, 28) ∈ chkZ) ∧ ((18, 0) ∈ chkZ ∧ (129, 33) ∈ chkZ) := by decide +kernel
theorem in_t : IT pm_MB.2.2.1 := by
  have e : tx pm_MB.2.2.1 = 0 := by unfold tx; rw [ciZ zt.1.2, nI_clamp (by decide)]
  exact ⟨by rw [ciZ zt.1.1, e], by rw [ciZ zt.1.2, e], by omega, fun i hi => by omega⟩
theorem zp : ∀ v, v < 4 → (141, v) ∈ chkZ ∧ (pp0 v, 0) ∈ chkZ := by decide +kernel
theorem in_p : ∀ v, v < 4 → IP pm_MB.2.2.1 (pp0 v) v := by
  intro v hv
  obtain ⟨a, b⟩ := zp v hv
  have e : pn pm_MB.2.2.1 v = 0 := by unfold pn; rw [ciZ a, nI_clamp (by decide)]
  exact ⟨by rw [ciZ a, e], by omega, by rw [ciZ b, e], fun i hi => by omega, fun i hi => by omega⟩
theorem zl : ∀ v, v < 2 → (147, v) ∈ chkZ ∧ (ll0 v, 0) ∈ chkZ := by decide +kernel
theorem in_l : ∀ v, v < 2 → IL pm_MB.2.2.1 (ll0 v) v := by
  intro v hv
  obtain ⟨a, b⟩ := zl v hv
  have e : wn pm_MB.2.2.1 v = 0 := by unfold wn; rw [ciZ a, nI_clamp (by decide)]
  exact ⟨by rw [ciZ a, e], by omega, by rw [ciZ b, e], fun i hi => by omega⟩
theorem in_e : IE pm_MB.2.2.1 := by
  have e : mn pm_MB.2.2.1 = 0 := by unfold mn; rw [ciZ zt.2.1.2, nI_clamp (by decide)]
  exact ⟨by rw [ciZ zt.2.1.1, e], by rw [ciZ zt.2.1.2, e], by omega, fun i hi => by omega⟩
theorem zc : ∀ i, i < 4 → (12, i) ∈ chkZ ∧ (13, i) ∈ chkZ ∧ (153, i) ∈ chkZ ∧ (154, i) ∈ chkZ := by decide +kernel
theorem in_c : IC pm_MB.2.2.1 := by
  intro i hi
  obtain ⟨a, b, c, d⟩ := zc i hi
  rw [ciZ a, ciZ b, ciZ c, ciZ d]
  exact ⟨rfl, by decide, rfl, by decide⟩
theorem in_n : IN pm_MB.2.2.1 := by
  unfold IN
  rw [ciZ zt.2.2.1.1, ciZ zt.2.2.1.2]
  exact ⟨rfl, by decide⟩
theorem in_q : IQ pm_MB.2.2.1 := by
  have e : qn pm_MB.2.2.1 = 0 := by unfold qn; rw [ciZ zt.2.2.2.2, nI_clamp (by decide)]
  exact ⟨by rw [ciZ zt.2.2.2.1, e], by rw [ciZ zt.2.2.2.2, e], by omega, fun i hi => by omega⟩
theorem in_r : PR pp0 ll0 := by
  refine ⟨by decide, ?_, by decide, ?_⟩
  · have h : ∀ v, v < 5 → ∀ w, w < 5 → pp0 v = pp0 w → v = w := by decide
    exact fun v w hv hw => h v hv w hw
  · have h : ∀ v, v < 3 → ∀ w, w < 3 → ll0 v = ll0 w → v = w := by decide
    exact fun v w hv hw => h v hv w hw
theorem rd1 : ∀ d, d < 6 → (1, d, dr d) ∈ chkR := by decide +kernel
theorem rd2 : ∀ d, d < 4 → (2, d, pp0 d) ∈ chkR := by decide +kernel
theorem rd7 : ∀ d, d < 4 → (6, d, 7 + d) ∈ chkR := by decide +kernel
theorem rd8 : ∀ d, d < 4 → (39, d, 40 + d) ∈ chkR := by decide +kernel
theorem rd9 : ∀ d, d < 4 → (44, d, 45 + d) ∈ chkR := by decide +kernel
theorem rd3 : ∀ d, d < 2 → (3, d, ll0 d) ∈ chkR := by decide +kernel
theorem rd4 : ∀ d, d < 6 → ∀ j, j < 7 → (dr d, 4 + j, dr d + (1 + j)) ∈ chkR := by decide +kernel
theorem rd5 : ∀ d, d < 5 → ∀ j, j < 5 → (pp0 d, 1 + j, pp0 d + (1 + j)) ∈ chkR := by decide +kernel
theorem rd6 : ∀ d, d < 3 → ∀ j, j < 2 → (ll0 d, 1 + j, ll0 d + (1 + j)) ∈ chkR := by decide +kernel
theorem in_x : rmX pm_MB.2.2.2 pp0 ll0 :=
  ⟨⟨ciR (by decide +kernel), ciR (by decide +kernel), ciR (by decide +kernel), ciR (by decide +kernel), ciR (by decide +kernel), ciR (by decide +kernel), ciR (by decide +kernel), ciR (by decide +kernel), ciR (by decide +kernel), ciR (by decide +kernel), ciR (by decide +kernel), ciR (by decide +kernel), ciR (by decide +kernel), ciR (by decide +kernel), ciR (by decide +kernel), ciR (by decide +kernel), ciR (by decide +kernel), ciR (by decide +kernel)⟩, ⟨ciR (by decide +kernel), ciR (by decide +kernel), ciR (by decide +kernel), ciR (by decide +kernel), ciR (by decide +kernel), ciR (by decide +kernel), ciR (by decide +kernel), ciR (by decide +kernel), ciR (by decide +kernel), ciR (by decide +kernel), ciR (by decide +kernel), ciR (by decide +kernel), ciR (by decide +kernel)⟩,
    fun d hd => ciR (rd1 d hd), fun d hd => ciR (rd2 d hd), fun d hd => ciR (rd3 d hd), fun d hd => ciR (rd7 d hd), fun d hd => ciR (rd8 d hd), fun d hd => ciR (rd9 d hd),
    fun d hd => ⟨ciR (rd4 d hd 0 (by decide)), ciR (rd4 d hd 1 (by decide)), ciR (rd4 d hd 2 (by decide)), ciR (rd4 d hd 3 (by decide)), ciR (rd4 d hd 4 (by decide)), ciR (rd4 d hd 5 (by decide)), ciR (rd4 d hd 6 (by decide))⟩,
    fun d hd => ⟨ciR (rd5 d hd 0 (by decide)), ciR (rd5 d hd 1 (by decide)), ciR (rd5 d hd 2 (by decide)), ciR (rd5 d hd 3 (by decide)), ciR (rd5 d hd 4 (by decide))⟩,
    fun d hd => ⟨ciR (rd6 d hd 0 (by decide)), ciR (rd6 d hd 1 (by decide))⟩⟩
theorem in_m : rmM pm_MB.2.2.2 :=
  ⟨ciR (by decide +kernel), ciR (by decide +kernel), ciR (by decide +kernel), ciR (by decide +kernel), ciR (by decide +kernel), ciR (by decide +kernel), ciR (by decide +kernel), ciR (by decide +kernel), ciR (by decide +kernel), ciR (by decide +kernel), ciR (by decide +kernel), ciR (by decide +kernel), ciR (by decide +kernel), ciR (by decide +kernel), ciR (by decide +kernel), ciR (by decide +kernel), ciR (by decide +kernel), ciR (by decide +kernel), ciR (by decide +kernel), ciR (by decide +kernel), ciR (by decide +kernel), ciR (by decide +kernel), ciR (by decide +kernel), ciR (by decide +kernel), ciR (by decide +kernel), ciR (by decide +kernel), ciR (by decide +kernel), ciR (by decide +kernel), ciR (by decide +kernel), ciR (by decide +kernel), ciR (by decide +kernel), ciR (by decide +kernel), ciR (by decide +kernel), ciR (by decide +kernel), ciR (by decide +kernel), ciR (by decide +kernel)⟩
theorem in_0 : INV pm_MB.2.2.1 pm_MB.2.2.2 pp0 ll0 := ⟨in_d, in_s, in_o, in_t, in_p, in_l, in_e, in_c, in_n, in_q, in_r, in_x, in_m⟩
