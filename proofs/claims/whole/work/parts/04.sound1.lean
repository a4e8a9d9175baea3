/-! The pure machine is sound, 1: the relation, locals, stack, arithmetic, branches. -/
def pm_rv (Z : Value) (adr : Nat → Nat) : Value → Value
  | .ref a => .ref (adr a)
  | .retAddr 7 => Z
  | v => v
def pm_al (Z : Value) (adr : Nat → Nat) : Nat → List Value → List (Nat × Value)
  | _, [] => []
  | i, v :: vs => if v = pm_u then pm_al Z adr (i + 1) vs else (i, pm_rv Z adr v) :: pm_al Z adr (i + 1) vs
theorem pm_al_mem {Z : Value} {adr : Nat → Nat} : ∀ (lv : List Value) (i j : Nat) (w : Value), (j, w) ∈ pm_al Z adr i lv ↔ ∃ k v, j = i + k ∧ lv[k]? = some v ∧ v ≠ pm_u ∧ w = pm_rv Z adr v := by
  intro lv
  induction lv with
  | nil => intro i j w; simp [pm_al]
  | cons v vs ih =>
    intro i j w
    rw [pm_al]
    constructor
    · intro h
      by_cases hv : v = pm_u
      · rw [if_pos hv] at h
        obtain ⟨k, v', h1, h2, h3, h4⟩ := (ih (i + 1) j w).mp h
        exact ⟨k + 1, v', by omega, by simpa using h2, h3, h4⟩
      · rw [if_neg hv] at h
        rcases List.mem_cons.mp h with h | h
        · cases h
          exact ⟨0, v, rfl, rfl, hv, rfl⟩
        · obtain ⟨k, v', h1, h2, h3, h4⟩ := (ih (i + 1) j w).mp h
          exact ⟨k + 1, v', by omega, by simpa using h2, h3, h4⟩
    · rintro ⟨k, v', h1, h2, h3, h4⟩
      cases k with
      | zero =>
        simp at h2
        subst h2
        rw [if_neg h3]
        simp [h1, h4]
      | succ k =>
        have h5 : (j, w) ∈ pm_al Z adr (i + 1) vs := (ih (i + 1) j w).mpr ⟨k, v', by omega, by simpa using h2, h3, h4⟩
        by_cases hv : v = pm_u
        · rw [if_pos hv]; exact h5
        · rw [if_neg hv]; exact List.mem_cons_of_mem _ h5
def pm_L (Z : Value) (adr : Nat → Nat) (ls : Array Slot) (nL : Nat) (lv : List Value) : Prop := lv.length = nL ∧ lv_has ls nL (pm_al Z adr 0 lv)
theorem pm_L.get {Z : Value} {adr : Nat → Nat} {ls : Array Slot} {nL k : Nat} {lv : List Value} {v : Value} (h : pm_L Z adr ls nL lv) (hk : lv[k]? = some v) (hv : v ≠ pm_u) : ls[k]? = some (.val (pm_rv Z adr v)) :=
  h.2.2.2 (k, pm_rv Z adr v) ((pm_al_mem lv 0 k _).mpr ⟨k, v, by omega, hk, hv, rfl⟩)
theorem pm_clr_len (lv : List Value) (i : Nat) : (pm_clr lv i).length = lv.length := by
  cases i with
  | zero => rfl
  | succ j =>
    unfold pm_clr
    split <;> simp_all
    split <;> simp_all
theorem pm_clr_get {lv : List Value} {i j : Nat} {v : Value} (h : (pm_clr lv i)[j]? = some v) (hv : v ≠ pm_u) : lv[j]? = some v ∧ ¬ (j + 1 = i ∧ v.category = 2) := by
  cases i with
  | zero => exact ⟨h, by omega⟩
  | succ i =>
    rw [pm_clr] at h
    split at h
    · by_cases hj : j = i
      · subst hj
        rw [List.getElem?_set] at h
        simp at h
        exact absurd h.2.symm hv
      · rw [List.getElem?_set_ne (Ne.symm hj)] at h
        exact ⟨h, by omega⟩
    · by_cases hj : j = i
      · subst hj
        rw [List.getElem?_set] at h
        simp at h
        exact absurd h.2.symm hv
      · rw [List.getElem?_set_ne (Ne.symm hj)] at h
        exact ⟨h, by omega⟩
    · rename_i hn hn2
      refine ⟨h, ?_⟩
      rintro ⟨h1, h3⟩
      have h2 : j = i := by omega
      subst h2
      cases v <;> simp [Value.category] at h3
      · exact hn _ h
      · exact hn2 _ h
theorem pm_rv_cat {Z : Value} {adr : Nat → Nat} (hZ : Z.category = 1) (v : Value) : (pm_rv Z adr v).category = v.category := by
  unfold pm_rv
  split <;> simp_all [Value.category]
theorem pm_L.st1 {Z : Value} {adr : Nat → Nat} {ls ls' : Array Slot} {nL k : Nat} {lv : List Value} {v : Value} (hZ : Z.category = 1) (h : pm_L Z adr ls nL lv) (h' : lv_has ls' nL ((k, pm_rv Z adr v) :: (pm_al Z adr 0 lv).filter (fun q => !(q.1 == k) && !(q.1 + 1 == k && q.2.category == 2)))) : pm_L Z adr ls' nL (pm_st1 lv k v) := by
  refine ⟨by simp [pm_st1, pm_clr_len, h.1], h'.1, h'.2.1, ?_⟩
  rintro ⟨j, w⟩ hq
  apply h'.2.2
  obtain ⟨k', v', h1, h2, h3, rfl⟩ := (pm_al_mem _ 0 j w).mp hq
  have hj : j = k' := by omega
  subst hj
  by_cases hjk : j = k
  · subst hjk
    rw [pm_st1, List.getElem?_set] at h2
    simp at h2
    rw [← h2.2]
    exact List.mem_cons_self
  · rw [pm_st1, List.getElem?_set_ne (Ne.symm hjk)] at h2
    obtain ⟨h4, h5⟩ := pm_clr_get h2 h3
    refine List.mem_cons_of_mem _ (List.mem_filter.mpr ⟨(pm_al_mem lv 0 j _).mpr ⟨j, v', by omega, h4, h3, rfl⟩, ?_⟩)
    by_cases h6 : j + 1 = k
    · have h9 : ¬ (pm_rv Z adr v').category = 2 := by rw [pm_rv_cat hZ]; exact fun q => h5 ⟨h6, q⟩
      simp [hjk, h9]
    · simp [hjk, h6]
theorem pm_L.st2 {Z : Value} {adr : Nat → Nat} {ls ls' : Array Slot} {nL k : Nat} {lv : List Value} {v : Value} (hZ : Z.category = 1) (h : pm_L Z adr ls nL lv) (h' : lv_has ls' nL ((k, pm_rv Z adr v) :: (pm_al Z adr 0 lv).filter (fun q => !(q.1 == k) && (!(q.1 == k + 1) && !(q.1 + 1 == k && q.2.category == 2))))) : pm_L Z adr ls' nL (pm_st2 lv k v) := by
  refine ⟨by simp [pm_st2, pm_clr_len, h.1], h'.1, h'.2.1, ?_⟩
  rintro ⟨j, w⟩ hq
  apply h'.2.2
  obtain ⟨k', v', h1, h2, h3, rfl⟩ := (pm_al_mem _ 0 j w).mp hq
  have hj : j = k' := by omega
  subst hj
  rw [pm_st2] at h2
  by_cases hjk1 : j = k + 1
  · subst hjk1
    rw [List.getElem?_set] at h2
    simp at h2
    exact absurd h2.2.symm h3
  · rw [List.getElem?_set_ne (Ne.symm hjk1)] at h2
    by_cases hjk : j = k
    · subst hjk
      rw [List.getElem?_set] at h2
      simp at h2
      rw [← h2.2]
      exact List.mem_cons_self
    · rw [List.getElem?_set_ne (Ne.symm hjk)] at h2
      obtain ⟨h4, h5⟩ := pm_clr_get h2 h3
      refine List.mem_cons_of_mem _ (List.mem_filter.mpr ⟨(pm_al_mem lv 0 j _).mpr ⟨j, v', by omega, h4, h3, rfl⟩, ?_⟩)
      by_cases h6 : j + 1 = k
      · have h9 : ¬ (pm_rv Z adr v').category = 2 := by rw [pm_rv_cat hZ]; exact fun q => h5 ⟨h6, q⟩
        simp [hjk, hjk1, h9]
      · simp [hjk, hjk1, h6]
theorem pm_mask_len : ∀ (bs : List Bool) (lv : List Value), (pm_mask bs lv).length = lv.length
  | [], lv => by simp [pm_mask]
  | b :: bs, [] => by simp [pm_mask]
  | b :: bs, v :: vs => by simp [pm_mask, pm_mask_len bs vs]
theorem pm_mask_get : ∀ (bs : List Bool) (lv : List Value) (j : Nat) (v : Value), (pm_mask bs lv)[j]? = some v → v ≠ pm_u → lv[j]? = some v
  | [], lv, j, v, h, _ => by simpa [pm_mask] using h
  | b :: bs, [], j, v, h, _ => by simpa [pm_mask] using h
  | b :: bs, w :: vs, j, v, h, hv => by
    rw [pm_mask] at h
    cases j with
    | zero =>
      simp at h
      cases b
      · exact absurd h.symm hv
      · simpa using h
    | succ j =>
      simp at h
      simpa using pm_mask_get bs vs j v h hv
theorem pm_L.msk {Z : Value} {adr : Nat → Nat} {ls : Array Slot} {nL : Nat} {lv : List Value} (ms : List (Nat × List Bool)) (pc : Nat) (h : pm_L Z adr ls nL lv) : pm_L Z adr ls nL (pm_msk ms pc lv) := by
  unfold pm_msk
  split
  · exact h
  · rename_i bs _
    refine ⟨by rw [pm_mask_len]; exact h.1, h.2.1, h.2.2.1, ?_⟩
    rintro ⟨j, w⟩ hq
    apply h.2.2.2
    obtain ⟨k', v', h1, h2, h3, rfl⟩ := (pm_al_mem _ 0 j w).mp hq
    exact (pm_al_mem _ 0 j _).mpr ⟨k', v', h1, pm_mask_get _ _ _ _ h2 h3, h3, rfl⟩
