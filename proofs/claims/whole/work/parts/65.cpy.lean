-- needs: 64
/-! The model's copies of a draft. -/
def cpT (m0 m : IM) (v n : Nat) : Prop := ∀ q, q < n → m 144 (24 * v + q) = m0 144 (96 + q) ∧ m 145 (24 * v + q) = m0 145 (96 + q) ∧ m 146 (24 * v + q) = m0 146 (96 + q)
def cpL (m0 m : IM) (v n : Nat) : Prop := ∀ q, q < n → m 142 (6 * v + q) = m0 142 (24 + q) ∧ m 143 (6 * v + q) = m0 143 (24 + q)
def cpF (m0 m : IM) (v : Nat) : Prop := ∀ b k, ¬ ((b = 142 ∨ b = 143) ∧ 6 * v ≤ k ∧ k < 6 * v + 6) → ¬ (144 ≤ b ∧ b ≤ 146 ∧ 24 * v ≤ k ∧ k < 24 * v + 24) → m b k = m0 b k
def cpW (m0 m : IM) (v n : Nat) : Prop := ∀ q, q < n → m 148 (8 * v + q) = m0 148 (16 + q) ∧ m 149 (8 * v + q) = m0 149 (16 + q)
def cpG (m0 m : IM) (v : Nat) : Prop := ∀ b k, ¬ ((b = 148 ∨ b = 149) ∧ 8 * v ≤ k ∧ k < 8 * v + 8) → m b k = m0 b k
section CPY
variable {m0 : IM} {rm : RM}
theorem cp131 (hm : rmM rm) {v c : Nat} (hv : v < 4) (hc : c ≤ 6) (h1 : m0 141 v = nI c) : ∃ m', ev 131 36 [.ref 129, .int (nI v), .int (nI 0), pm_u] [] m0 rm = ev 131 189 [.ref 129, .int (nI v), pm_u, pm_u] [] m' rm ∧ cpL m0 m' v c ∧ cpT m0 m' v (4 * c) ∧ cpF m0 m' v := by
  have inner : ∀ i, i < c → ∀ k, k ≤ 4 → ∀ m : IM, cpT m0 m v (4 * i + k) → cpF m0 m v → ∃ m', ev 131 88 [.ref 129, .int (nI v), .int (nI i), .int (nI k)] [] m rm = ev 131 183 [.ref 129, .int (nI v), .int (nI i), pm_u] [] m' rm ∧ cpT m0 m' v (4 * i + 4) ∧ cpF m0 m' v ∧ ∀ b j, b < 144 → m' b j = m b j := by
    intro i hi
    refine dn ?_ ?_
    · intro m h2 h3
      refine ⟨m, ?_, h2, h3, fun _ _ _ => rfl⟩
      simp only [s131_88, s131_89, s131_90, ↓reduceIte, Option.bind_some, Option.toList, List.cons_append, List.nil_append, bB_0, bB_z, z01_0, z01_1, n01, n00, pm_ro_some, reduceCtorEq, if_true, if_false, and_self, and_true, true_and, not_true, not_false_eq_true, Nat.reduceLeDiff, Nat.reduceAdd, kdM, lpT]
    · intro k hk ih m h2 h3
      generalize hw : pm_w2 (pm_w2 (pm_w2 m 144 (24 * v + (4 * i + k)) (m 144 (96 + (4 * i + k)))) 145 (24 * v + (4 * i + k)) (m 145 (96 + (4 * i + k)))) 146 (24 * v + (4 * i + k)) (m 146 (96 + (4 * i + k))) = w
      have e1 : w 144 (24 * v + (4 * i + k)) = m 144 (96 + (4 * i + k)) := by rw [← hw, w2_a (by omega), w2_a (by omega), w2_s]
      have e2 : w 145 (24 * v + (4 * i + k)) = m 145 (96 + (4 * i + k)) := by rw [← hw, w2_a (by omega), w2_s]
      have e3 : w 146 (24 * v + (4 * i + k)) = m 146 (96 + (4 * i + k)) := by rw [← hw, w2_s]
      have ew : ∀ b j, ¬ (144 ≤ b ∧ b ≤ 146 ∧ j = 24 * v + (4 * i + k)) → w b j = m b j := fun b j q => by rw [← hw, w2_n (by omega), w2_n (by omega), w2_n (by omega)]
      obtain ⟨m', E1, E2, E3, E4⟩ := ih w (fun q hq => by
        by_cases e : q = 4 * i + k
        · rw [e, e1, e2, e3, h3 144 _ (by omega) (by omega), h3 145 _ (by omega) (by omega), h3 146 _ (by omega) (by omega)]
          exact ⟨rfl, rfl, rfl⟩
        · rw [ew _ _ (by omega), ew _ _ (by omega), ew _ _ (by omega)]
          exact h2 q (by omega)) (fun b j q1 q2 => by rw [ew b j (by omega)]; exact h3 b j q1 q2)
      refine ⟨m', ?_, E2, E3, fun b j q => by rw [E4 b j q, ew b j (by omega)]⟩
      rw [← E1, s131_88]
      simp only [s131_89, s131_90, s131_93, s131_94, s131_97, s131_99, s131_100, s131_101, s131_102, s131_103, s131_104, s131_105, s131_106, s131_107, s131_108, s131_111, s131_113, s131_114, s131_115, s131_116, s131_117, s131_118, s131_119, s131_120, s131_121, s131_122, s131_125, s131_127, s131_128, s131_129, s131_130, s131_131, s131_132, s131_133, s131_134, s131_135, s131_136, s131_139, s131_141, s131_142, s131_143, s131_144, s131_145, s131_146, s131_147, s131_148, s131_149, s131_150, s131_153, s131_155, s131_156, s131_157, s131_158, s131_159, s131_160, s131_161, s131_162, s131_163, s131_164, s131_167, s131_169, s131_170, s131_171, s131_172, s131_173, s131_174, s131_175, s131_176, s131_177, s131_180, ↓reduceIte, Option.bind_some, Option.toList, List.cons_append, List.nil_append, bB_0, bB_z, z01_0, z01_1, n01, n00, pm_ro_some, reduceCtorEq, if_true, if_false, and_self, and_true, true_and, not_true, not_false_eq_true, Nat.reduceLeDiff, Nat.reduceAdd, kdM, hm, lpF hk (show 4 < 2 ^ 31 by decide), pk_mul, nI_add, Nat.add_assoc, ix (show 24 * v + (4 * i + k) < 120 by omega), ix (show 96 + (4 * i + k) < 120 by omega), w2_a (show 145 ≠ 144 by decide), w2_a (show 146 ≠ 145 by decide), w2_a (show 146 ≠ 144 by decide), hw]
  have outer : ∀ i, i ≤ c → ∀ m : IM, cpL m0 m v i → cpT m0 m v (4 * i) → cpF m0 m v → ∃ m', ev 131 36 [.ref 129, .int (nI v), .int (nI i), pm_u] [] m rm = ev 131 189 [.ref 129, .int (nI v), pm_u, pm_u] [] m' rm ∧ cpL m0 m' v c ∧ cpT m0 m' v (4 * c) ∧ cpF m0 m' v := by
    refine dn ?_ ?_
    · intro m h2 h3 h4
      have q : m 141 v = nI c := by rw [h4 _ _ (by omega) (by omega)]; exact h1
      refine ⟨m, ?_, h2, h3, h4⟩
      simp only [s131_36, s131_37, s131_38, s131_41, s131_42, s131_43, ↓reduceIte, Option.bind_some, Option.toList, List.cons_append, List.nil_append, bB_0, bB_z, z01_0, z01_1, n01, n00, pm_ro_some, reduceCtorEq, if_true, if_false, and_self, and_true, true_and, not_true, not_false_eq_true, Nat.reduceLeDiff, Nat.reduceAdd, kdM, hm, ix (show v < 5 by omega), q, lpT]
    · intro i hi ih m h2 h3 h4
      have q : m 141 v = nI c := by rw [h4 _ _ (by omega) (by omega)]; exact h1
      generalize hw : pm_w2 (pm_w2 m 142 (6 * v + i) (m 142 (24 + i))) 143 (6 * v + i) (m 143 (24 + i)) = w
      have e1 : w 142 (6 * v + i) = m 142 (24 + i) := by rw [← hw, w2_a (by omega), w2_s]
      have e2 : w 143 (6 * v + i) = m 143 (24 + i) := by rw [← hw, w2_s]
      have ew : ∀ b j, ¬ ((b = 142 ∨ b = 143) ∧ j = 6 * v + i) → w b j = m b j := fun b j q => by rw [← hw, w2_n (by omega), w2_n (by omega)]
      obtain ⟨m1, A1, A2, A3, A4⟩ := inner i hi 0 (by omega) w (fun q hq => by
        rw [ew _ _ (by omega), ew _ _ (by omega), ew _ _ (by omega)]
        exact h3 q (by omega)) (fun b j q1 q2 => by rw [ew b j (by omega)]; exact h4 b j q1 q2)
      obtain ⟨m', E1, E2⟩ := ih m1 (fun q hq => by
        rw [A4 _ _ (by omega), A4 _ _ (by omega)]
        by_cases e : q = i
        · rw [e, e1, e2, h4 142 _ (by omega) (by omega), h4 143 _ (by omega) (by omega)]
          exact ⟨rfl, rfl⟩
        · rw [ew _ _ (by omega), ew _ _ (by omega)]
          exact h2 q (by omega)) (fun q hq => A2 q (by omega)) A3
      refine ⟨m', ?_, E2⟩
      rw [← E1, s131_36]
      simp only [s131_37, s131_38, s131_41, s131_42, s131_43, s131_46, s131_47, s131_50, s131_52, s131_53, s131_54, s131_55, s131_56, s131_57, s131_60, s131_62, s131_63, s131_64, s131_65, s131_66, s131_67, s131_70, s131_72, s131_73, s131_74, s131_75, s131_76, s131_77, s131_80, s131_82, s131_83, s131_84, s131_85, s131_86, s131_87, s131_183, s131_186, ↓reduceIte, Option.bind_some, Option.toList, List.cons_append, List.nil_append, bB_0, bB_z, z01_0, z01_1, n01, n00, pm_ro_some, reduceCtorEq, if_true, if_false, and_self, and_true, true_and, not_true, not_false_eq_true, Nat.reduceLeDiff, Nat.reduceAdd, kdM, hm, ix (show v < 5 by omega), q, lpF hi (show c < 2 ^ 31 by omega), pk_mul, nI_add, ix (show 6 * v + i < 30 by omega), ix (show 24 + i < 30 by omega), w2_a (show 143 ≠ 142 by decide), hw, A1]
  exact outer 0 (by omega) m0 (fun q hq => absurd hq (by omega)) (fun q hq => absurd hq (by omega)) (fun _ _ _ _ => rfl)
theorem cp132 (hm : rmM rm) {v c : Nat} (hv : v < 2) (hc : c ≤ 8) (h1 : m0 147 v = nI c) : ∃ m', ev 132 36 [.ref 129, .int (nI v), .int (nI 0)] [] m0 rm = ev 132 92 [.ref 129, .int (nI v), pm_u] [] m' rm ∧ cpW m0 m' v c ∧ cpG m0 m' v := by
  have outer : ∀ i, i ≤ c → ∀ m : IM, cpW m0 m v i → cpG m0 m v → ∃ m', ev 132 36 [.ref 129, .int (nI v), .int (nI i)] [] m rm = ev 132 92 [.ref 129, .int (nI v), pm_u] [] m' rm ∧ cpW m0 m' v c ∧ cpG m0 m' v := by
    refine dn ?_ ?_
    · intro m h2 h4
      have q : m 147 v = nI c := by rw [h4 _ _ (by omega)]; exact h1
      refine ⟨m, ?_, h2, h4⟩
      simp only [s132_36, s132_37, s132_38, s132_41, s132_42, s132_43, ↓reduceIte, Option.bind_some, Option.toList, List.cons_append, List.nil_append, bB_0, bB_z, z01_0, z01_1, n01, n00, pm_ro_some, reduceCtorEq, if_true, if_false, and_self, and_true, true_and, not_true, not_false_eq_true, Nat.reduceLeDiff, Nat.reduceAdd, kdM, hm, ix (show v < 3 by omega), q, lpT]
    · intro i hi ih m h2 h4
      have q : m 147 v = nI c := by rw [h4 _ _ (by omega)]; exact h1
      generalize hw : pm_w2 (pm_w2 m 148 (8 * v + i) (m 148 (16 + i))) 149 (8 * v + i) (m 149 (16 + i)) = w
      have e1 : w 148 (8 * v + i) = m 148 (16 + i) := by rw [← hw, w2_a (by omega), w2_s]
      have e2 : w 149 (8 * v + i) = m 149 (16 + i) := by rw [← hw, w2_s]
      have ew : ∀ b j, ¬ ((b = 148 ∨ b = 149) ∧ j = 8 * v + i) → w b j = m b j := fun b j q => by rw [← hw, w2_n (by omega), w2_n (by omega)]
      obtain ⟨m', E1, E2⟩ := ih w (fun q hq => by
        by_cases e : q = i
        · rw [e, e1, e2, h4 148 _ (by omega), h4 149 _ (by omega)]
          exact ⟨rfl, rfl⟩
        · rw [ew _ _ (by omega), ew _ _ (by omega)]
          exact h2 q (by omega)) (fun b j q1 => by rw [ew b j (by omega)]; exact h4 b j q1)
      refine ⟨m', ?_, E2⟩
      rw [← E1, s132_36]
      simp only [s132_37, s132_38, s132_41, s132_42, s132_43, s132_46, s132_47, s132_50, s132_52, s132_53, s132_54, s132_55, s132_56, s132_57, s132_60, s132_62, s132_63, s132_64, s132_65, s132_66, s132_67, s132_70, s132_72, s132_73, s132_74, s132_75, s132_76, s132_77, s132_80, s132_82, s132_83, s132_84, s132_85, s132_86, s132_89, ↓reduceIte, Option.bind_some, Option.toList, List.cons_append, List.nil_append, bB_0, bB_z, z01_0, z01_1, n01, n00, pm_ro_some, reduceCtorEq, if_true, if_false, and_self, and_true, true_and, not_true, not_false_eq_true, Nat.reduceLeDiff, Nat.reduceAdd, kdM, hm, ix (show v < 3 by omega), q, lpF hi (show c < 2 ^ 31 by omega), pk_mul, nI_add, ix (show 8 * v + i < 24 by omega), ix (show 16 + i < 24 by omega), w2_a (show 149 ≠ 148 by decide), hw]
  exact outer 0 (by omega) m0 (fun q hq => absurd hq (by omega)) (fun _ _ _ => rfl)
end CPY
