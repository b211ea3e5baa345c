/-! ===== the pure machine's cells in a heap ===== -/
/-- where the world begins, and where the cells outside lie -/
abbrev pm_B : Type := Nat × (Nat → Option Nat)
def pm_v (b : pm_B) : Value → Value
  | .retAddr j => va_rf (b.2 j)
  | .ref k => .ref (b.1 + k)
  | v => v
def pm_a (b : pm_B) : pm_A → vp_A
  | .inl xs => (xs.length, .inl (fun j => xs.getD j 0))
  | .inr (.inl xs) => (xs.length, .inr (.inl (fun j => xs.getD j 0)))
  | .inr (.inr xs) => (xs.length, .inr (.inr (.inr (.inr (fun j => (xs.getD j none).map (fun k => b.1 + k))))))
def pm_e (cA : Nat → ClassId) (b : pm_B) : pm_E → va_E
  | .inl (t, a) => .inl (cA t, pm_a b a)
  | .inr (ci, fs) => .inr (ci, fs.map (pm_v b))
def pm_ws (cA : Nat → ClassId) (b : pm_B) (w : pm_W) : va_W := w.mapIdx (fun k e => (b.1 + k, pm_e cA b e))
def pm_tys (cA : Nat → ClassId) (tyl : List FieldType) : List (ClassId × FieldType) := tyl.mapIdx (fun t ty => (cA t, ty))
/-- where a cell outside lies -/
def pm_ad (b : pm_B) (j : Nat) : Nat := (b.2 j).getD 0
theorem pm_v_some {b : pm_B} {j a : Nat} (h : b.2 j = some a) : pm_v b (.retAddr j) = .ref a := by
  show va_rf (b.2 j) = _
  rw [h]
  rfl
theorem pm_v_cat (b : pm_B) (v : Value) : (pm_v b v).category = v.category := by
  cases v with
  | retAddr j =>
    show (va_rf (b.2 j)).category = _
    cases b.2 j <;> rfl
  | _ => rfl
theorem pm_v_live (b : pm_B) (v : Value) : pm_live (pm_v b v) = pm_live v := by
  cases v with
  | retAddr j =>
    show pm_live (va_rf (b.2 j)) = _
    cases b.2 j <;> rfl
  | _ => rfl
theorem pm_v_nar (b : pm_B) (ty : FieldType) (v : Value) : narrow ty (pm_v b v) = pm_v b (narrow ty v) := by
  cases v with
  | retAddr j =>
    have e : narrow ty (.retAddr j) = .retAddr j := by cases ty <;> rfl
    rw [e]
    show narrow ty (va_rf (b.2 j)) = va_rf (b.2 j)
    cases b.2 j <;> cases ty <;> rfl
  | _ => cases ty <;> rfl
theorem pm_v_fit (b : pm_B) (ty : FieldType) (v : Value) (h : fits ty v = true) : fits ty (pm_v b v) = true := by cases ty <;> cases v <;> first | exact h | rfl | cases h
theorem pm_v_rf (b : pm_B) (r : Option Nat) : pm_v b (pm_rf r) = va_rf (r.map (fun k => b.1 + k)) := by cases r <;> rfl
theorem pm_v_def (b : pm_B) (ty : FieldType) : pm_v b (defaultValue ty) = defaultValue ty := by cases ty <;> rfl
theorem pm_ws_at {cA : Nat → ClassId} {b : pm_B} {w : pm_W} {k : Nat} {e : pm_E} (h : w[k]? = some e) : (pm_ws cA b w)[k]? = some (b.1 + k, pm_e cA b e) := by
  simp [pm_ws, List.getElem?_mapIdx, h]
theorem pm_ws_of {cA : Nat → ClassId} {b : pm_B} {w : pm_W} {k : Nat} {q : Nat × va_E} (h : (pm_ws cA b w)[k]? = some q) : ∃ e, w[k]? = some e ∧ q = (b.1 + k, pm_e cA b e) := by
  simp only [pm_ws, List.getElem?_mapIdx, Option.map_eq_some_iff] at h
  obtain ⟨e, h1, h2⟩ := h
  exact ⟨e, h1, h2.symm⟩
theorem pm_ws_set (cA : Nat → ClassId) (b : pm_B) (w : pm_W) (k : Nat) (e : pm_E) : (pm_ws cA b w).set k (b.1 + k, pm_e cA b e) = pm_ws cA b (w.set k e) := by
  apply List.ext_getElem?
  intro j
  by_cases hj : k = j
  · subst hj
    simp only [pm_ws, List.getElem?_mapIdx, List.getElem?_set_self', List.getElem?_mapIdx]
    cases w[k]? <;> rfl
  · rw [List.getElem?_set_ne hj]
    simp only [pm_ws, List.getElem?_mapIdx, List.getElem?_set_ne hj]
theorem pm_ws_push (cA : Nat → ClassId) (b : pm_B) (w : pm_W) (e : pm_E) : pm_ws cA b (w ++ [e]) = pm_ws cA b w ++ [(b.1 + w.length, pm_e cA b e)] := by
  simp [pm_ws, List.mapIdx_append]
theorem pm_ws_len (cA : Nat → ClassId) (b : pm_B) (w : pm_W) : (pm_ws cA b w).length = w.length := by simp [pm_ws]
theorem pm_D {cA : Nat → ClassId} {b : pm_B} {w : pm_W} : va_D (fun q => b.1 ≤ q) (pm_ws cA b w) := by
  refine ⟨fun i j p q hi hj h => ?_, fun k q hk => ?_⟩
  · obtain ⟨e1, -, rfl⟩ := pm_ws_of hi
    obtain ⟨e2, -, rfl⟩ := pm_ws_of hj
    have h : b.1 + i = b.1 + j := h
    omega
  · obtain ⟨e1, -, rfl⟩ := pm_ws_of hk
    exact Nat.le_add_right _ _
theorem pm_tys_at {cA : Nat → ClassId} {tyl : List FieldType} {t : Nat} {ty : FieldType} (h : tyl[t]? = some ty) : (pm_tys cA tyl)[t]? = some (cA t, ty) := by
  simp [pm_tys, List.getElem?_mapIdx, h]
theorem pm_in_ok {i : Int32} {n : Nat} (h : pm_in i n = true) : vp_in i n := by
  unfold pm_in at h
  exact of_decide_eq_true (p := ¬ (i < 0 ∨ n ≤ i.toNatClampNeg)) h
theorem pm_in_lt {i : Int32} {n : Nat} (h : vp_in i n) : i.toNatClampNeg < n := Nat.not_le.mp fun q => h (Or.inr q)
/-- locals -/
def pm_lv (b : pm_B) (ls : List Value) : List (Nat × Value) := (ls.zipIdx.filter (fun q => pm_live q.1)).map (fun q => (q.2, pm_v b q.1))
theorem pm_lv_mem {b : pm_B} {ls : List Value} {k : Nat} {u : Value} : (k, u) ∈ pm_lv b ls ↔ ∃ v, ls[k]? = some v ∧ pm_live v = true ∧ u = pm_v b v := by
  constructor
  · intro h
    obtain ⟨⟨v, j⟩, h1, h2⟩ := List.mem_map.mp h
    obtain ⟨h3, h4⟩ := List.mem_filter.mp h1
    cases h2
    exact ⟨v, List.mem_zipIdx_iff_getElem?.mp h3, h4, rfl⟩
  · rintro ⟨v, h1, h2, rfl⟩
    exact List.mem_map.mpr ⟨(v, k), List.mem_filter.mpr ⟨List.mem_zipIdx_iff_getElem?.mpr h1, h2⟩, rfl⟩
theorem pm_lv_at {b : pm_B} {nL : Nat} {ls : List Value} {lsR : Array Slot} (h : lv_has lsR nL (pm_lv b ls)) {k : Nat} {v : Value} (hk : ls[k]? = some v) (hv : pm_live v = true) : lsR[k]? = some (.val (pm_v b v)) :=
  h.2.2 (k, pm_v b v) (pm_lv_mem.mpr ⟨v, hk, hv, rfl⟩)
theorem pm_lv_sub {nL : Nat} {lsR : Array Slot} {l l' : List (Nat × Value)} (h : lv_has lsR nL l) (hs : ∀ q ∈ l', q ∈ l) : lv_has lsR nL l' := ⟨h.1, h.2.1, fun q hq => h.2.2 q (hs q hq)⟩
theorem pm_st0_len (ls : List Value) (k : Nat) : (pm_st0 ls k).length = ls.length := by
  cases k with
  | zero => rfl
  | succ j =>
    simp only [pm_st0]
    split <;> simp
theorem pm_st1_len (ls : List Value) (k : Nat) (v : Value) : (pm_st1 ls k v).length = ls.length := by simp [pm_st1, pm_st0_len]
theorem pm_st2_len (ls : List Value) (k : Nat) (v : Value) : (pm_st2 ls k v).length = ls.length := by simp [pm_st2, pm_st0_len]
theorem pm_st0_get {ls : List Value} {k j : Nat} {v : Value} (h : (pm_st0 ls k)[j]? = some v) (hv : pm_live v = true) : ls[j]? = some v ∧ ¬ (j + 1 = k ∧ v.category = 2) := by
  cases k with
  | zero => exact ⟨h, fun q => by omega⟩
  | succ i =>
    simp only [pm_st0] at h
    split at h
    · rename_i hx
      by_cases hj : i = j
      · subst hj
        cases hi : ls[i]? with
        | none => rw [hi] at hx; cases hx
        | some u =>
          rw [List.getElem?_set_self (List.getElem?_eq_some_iff.mp hi).1] at h
          cases h
          cases hv
      · rw [List.getElem?_set_ne hj] at h
        exact ⟨h, fun q => hj (by omega)⟩
    · rename_i hx
      refine ⟨h, fun q => ?_⟩
      have hj : j = i := by omega
      subst hj
      rw [h] at hx
      exact hx (congrArg some q.2)
theorem pm_lv_st1 {b : pm_B} {nL : Nat} {ls : List Value} {lsR : Array Slot} {k : Nat} {v : Value} {l : List (Nat × Value)} (hl : (k, pm_v b v) :: (pm_lv b ls).filter (fun q => !(q.1 == k) && !(q.1 + 1 == k && q.2.category == 2)) = l) (h : lv_has lsR nL l) : lv_has lsR nL (pm_lv b (pm_st1 ls k v)) := by
  subst hl
  refine pm_lv_sub h fun q hq => ?_
  obtain ⟨j, u⟩ := q
  obtain ⟨x, h1, h2, rfl⟩ := pm_lv_mem.mp hq
  by_cases hj : k = j
  · subst hj
    have hlt : k < ((pm_st0 ls k).set k v).length := (List.getElem?_eq_some_iff.mp h1).1
    rw [List.length_set] at hlt
    have h1 : ((pm_st0 ls k).set k v)[k]? = some x := h1
    rw [List.getElem?_set_self hlt] at h1
    cases h1
    exact List.mem_cons_self
  · have h1 : ((pm_st0 ls k).set k v)[j]? = some x := h1
    rw [List.getElem?_set_ne hj] at h1
    obtain ⟨h3, h4⟩ := pm_st0_get h1 h2
    refine List.mem_cons_of_mem _ (List.mem_filter.mpr ⟨pm_lv_mem.mpr ⟨x, h3, h2, rfl⟩, ?_⟩)
    simp only [Bool.and_eq_true, Bool.not_eq_true', beq_eq_false_iff_ne, Bool.and_eq_false_iff, ne_eq, pm_v_cat]
    refine ⟨fun q => hj q.symm, ?_⟩
    by_cases z : j + 1 = k
    · exact Or.inr fun q => h4 ⟨z, q⟩
    · exact Or.inl z
theorem pm_lv_st2 {b : pm_B} {nL : Nat} {ls : List Value} {lsR : Array Slot} {k : Nat} {v : Value} {l : List (Nat × Value)} (hl : (k, pm_v b v) :: (pm_lv b ls).filter (fun q => !(q.1 == k) && (!(q.1 == k + 1) && !(q.1 + 1 == k && q.2.category == 2))) = l) (h : lv_has lsR nL l) : lv_has lsR nL (pm_lv b (pm_st2 ls k v)) := by
  subst hl
  refine pm_lv_sub h fun q hq => ?_
  obtain ⟨j, u⟩ := q
  obtain ⟨x, h1, h2, rfl⟩ := pm_lv_mem.mp hq
  have h1 : (((pm_st0 ls k).set k v).set (k + 1) pm_dead)[j]? = some x := h1
  by_cases hk : k + 1 = j
  · subst hk
    have hlt : k + 1 < (((pm_st0 ls k).set k v).set (k + 1) pm_dead).length := (List.getElem?_eq_some_iff.mp h1).1
    rw [List.length_set] at hlt
    rw [List.getElem?_set_self hlt] at h1
    cases h1
    cases h2
  rw [List.getElem?_set_ne hk] at h1
  by_cases hj : k = j
  · subst hj
    have hlt : k < ((pm_st0 ls k).set k v).length := (List.getElem?_eq_some_iff.mp h1).1
    rw [List.length_set] at hlt
    rw [List.getElem?_set_self hlt] at h1
    cases h1
    exact List.mem_cons_self
  · rw [List.getElem?_set_ne hj] at h1
    obtain ⟨h3, h4⟩ := pm_st0_get h1 h2
    refine List.mem_cons_of_mem _ (List.mem_filter.mpr ⟨pm_lv_mem.mpr ⟨x, h3, h2, rfl⟩, ?_⟩)
    simp only [Bool.and_eq_true, Bool.not_eq_true', beq_eq_false_iff_ne, Bool.and_eq_false_iff, ne_eq, pm_v_cat]
    refine ⟨fun q => hj q.symm, fun q => hk q.symm, ?_⟩
    by_cases z : j + 1 = k
    · exact Or.inr fun q => h4 ⟨z, q⟩
    · exact Or.inl z
/-- a method's entry -/
theorem pm_arg_len : ∀ vs : List Value, (pm_arg vs).length = (lg_sl vs).length
  | [] => rfl
  | v :: vs => by
    have ih := pm_arg_len vs
    unfold pm_arg
    simp only [lg_sl, List.flatMap_cons] at ih ⊢
    split <;> simp [ih]
theorem pm_arg_mem {b : pm_B} : ∀ (vs : List Value) (i k : Nat) (v : Value), (pm_arg vs)[k]? = some v → pm_live v = true → (i + k, pm_v b v) ∈ lv_args i (vs.map (pm_v b))
  | [], i, k, v, h, hv => by simp [pm_arg] at h
  | u :: vs, i, k, v, h, hv => by
    unfold pm_arg at h
    simp only [List.map_cons, lv_args, pm_v_cat]
    by_cases hc : u.category = 2
    · rw [if_pos hc] at h ⊢
      match k, h with
      | 0, h => cases h; exact List.mem_cons_self
      | 1, h => cases h; cases hv
      | k + 2, h =>
        have := pm_arg_mem (b := b) vs (i + 2) k v h hv
        rw [show i + (k + 2) = i + 2 + k by omega]
        exact List.mem_cons_of_mem _ this
    · rw [if_neg hc] at h ⊢
      match k, h with
      | 0, h => cases h; exact List.mem_cons_self
      | k + 1, h =>
        have := pm_arg_mem (b := b) vs (i + 1) k v h hv
        rw [show i + (k + 1) = i + 1 + k by omega]
        exact List.mem_cons_of_mem _ this
theorem lg_sl_v (b : pm_B) (vs : List Value) : (lg_sl (vs.map (pm_v b))).length = (lg_sl vs).length := by
  induction vs with
  | nil => rfl
  | cons v vs ih =>
    simp only [lg_sl, List.map_cons, List.flatMap_cons, List.length_append, pm_v_cat] at ih ⊢
    rw [ih]
    split <;> rfl
theorem pm_ent_ok {b : pm_B} {n : Nat} {vs : List Value} {lsR : Array Slot} (h : lv_has lsR n (lv_args 0 (vs.map (pm_v b)))) : lv_has lsR n (pm_lv b (pm_ent n vs)) := by
  refine pm_lv_sub h fun q hq => ?_
  obtain ⟨k, u⟩ := q
  obtain ⟨v, h1, h2, rfl⟩ := pm_lv_mem.mp hq
  unfold pm_ent at h1
  by_cases hk : k < (pm_arg vs).length
  · rw [List.getElem?_append_left hk] at h1
    have := pm_arg_mem (b := b) vs 0 k v h1 h2
    rwa [Nat.zero_add] at this
  · rw [List.getElem?_append_right (by omega)] at h1
    have := List.mem_of_getElem? h1
    rw [List.mem_replicate] at this
    rw [this.2] at h2
    cases h2
theorem pm_ent_len {n : Nat} {vs : List Value} (h : (pm_arg vs).length ≤ n) : (pm_ent n vs).length = n := by
  simp [pm_ent]; omega
