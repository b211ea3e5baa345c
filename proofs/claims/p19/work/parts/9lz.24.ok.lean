/-! ===== the program keeps what the pure machine asks ===== -/
theorem pg_look_mem {α : Type} : ∀ (l : List (Nat × Nat × α)) (c k : Nat) (a : α), pg_look l c k = some a → (c, k, a) ∈ l
  | [], c, k, a, h => by cases h
  | (c', k', a') :: l, c, k, a, h => by
    unfold pg_look at h
    cases hb : (Nat.beq c' c && Nat.beq k' k) with
    | true =>
      rw [hb] at h
      cases h
      rw [Bool.and_eq_true] at hb
      have h1 := Nat.eq_of_beq_eq_true hb.1
      have h2 := Nat.eq_of_beq_eq_true hb.2
      subst h1; subst h2
      exact List.mem_cons_self
    | false =>
      rw [hb] at h
      exact List.mem_cons_of_mem _ (pg_look_mem l c k a h)
theorem pg_gd_of {α : Type} {mi : Nat} {x : Option α} {a : α} (h : pg_gd mi x = some a) : mi < 319 ∧ x = some a := by
  unfold pg_gd at h
  cases hb : Nat.blt mi pg_n with
  | true =>
    rw [hb] at h
    rw [Nat.blt_eq] at hb
    exact ⟨hb, h⟩
  | false => rw [hb] at h; cases h
theorem pg_or_of {α : Type} {x z : Option α} {a : α} (h : pg_or x z = some a) : x = some a ∨ z = some a := by
  cases x with
  | some b => exact Or.inl h
  | none => exact Or.inr h
theorem pg_pn_ok : (List.range' 0 319).all (fun mi => decide ((pg_y mi).cls = pg_pn (pg_pc mi))) = true := by decide +kernel
theorem pg_cls {mi : Nat} (h : mi < 319) : (pg_y mi).cls = pg_pn (pg_pc mi) := of_decide_eq_true (p := (pg_y mi).cls = pg_pn (pg_pc mi)) (pg_range (P := fun mi => decide ((pg_y mi).cls = pg_pn (pg_pc mi))) pg_pn_ok (Nat.zero_le _) (by omega))
theorem pg_cl_at : ∀ ci, ci < 13 → pg_cl[ci]? = some (pg_R ci, pg_T ci, (pg_fs ci).length) := by
  intro ci h
  match ci, h with
  | 0, _ => rfl
  | 1, _ => rfl
  | 2, _ => rfl
  | 3, _ => rfl
  | 4, _ => rfl
  | 5, _ => rfl
  | 6, _ => rfl
  | 7, _ => rfl
  | 8, _ => rfl
  | 9, _ => rfl
  | 10, _ => rfl
  | 11, _ => rfl
  | 12, _ => rfl
  | k + 13, h => omega
theorem pg_cl_lt {ci : Nat} {q : vw_C} (h : pg_cl[ci]? = some q) : ci < 13 := (List.getElem?_eq_some_iff.mp h).1
theorem pg_t_wF {w : Cond} (h : w ∈ pg_wF) : w ∈ pg_Tb := List.mem_append_left _ h
theorem pg_t_Fx {w : Cond} (h : w ∈ pg_Fx) : w ∈ pg_Tb := List.mem_append_right _ (List.mem_append_left _ h)
theorem pg_t_wM {w : Cond} (h : w ∈ pg_wM) : w ∈ pg_Tb := List.mem_append_right _ (List.mem_append_right _ (List.mem_append_left _ h))
theorem pg_t_Mx {w : Cond} (h : w ∈ pg_Mx) : w ∈ pg_Tb := List.mem_append_right _ (List.mem_append_right _ (List.mem_append_right _ (List.mem_append_left _ h)))
theorem pg_t_wC {w : Cond} (h : w ∈ pg_wC) : w ∈ pg_Tb := List.mem_append_right _ (List.mem_append_right _ (List.mem_append_right _ (List.mem_append_right _ (List.mem_append_left _ h))))
theorem pg_t_wI {w : Cond} (h : w ∈ pg_wI) : w ∈ pg_Tb := List.mem_append_right _ (List.mem_append_right _ (List.mem_append_right _ (List.mem_append_right _ (List.mem_append_right _ (List.mem_append_left _ h)))))
theorem pg_t_wS {w : Cond} (h : w ∈ pg_wS) : w ∈ pg_Tb := List.mem_append_right _ (List.mem_append_right _ (List.mem_append_right _ (List.mem_append_right _ (List.mem_append_right _ (List.mem_append_right _ (List.mem_append_left _ h))))))
theorem pg_t_wL {w : Cond} (h : w ∈ pg_wL) : w ∈ pg_Tb := List.mem_append_right _ (List.mem_append_right _ (List.mem_append_right _ (List.mem_append_right _ (List.mem_append_right _ (List.mem_append_right _ (List.mem_append_right _ (List.mem_append_left _ h)))))))
theorem pg_t_wN {w : Cond} (h : w ∈ pg_wN) : w ∈ pg_Tb := List.mem_append_right _ (List.mem_append_right _ (List.mem_append_right _ (List.mem_append_right _ (List.mem_append_right _ (List.mem_append_right _ (List.mem_append_right _ (List.mem_append_right _ (List.mem_append_left _ h))))))))
theorem pg_t_wl {w : Cond} (h : w ∈ pg_wl) : w ∈ pg_Tb := List.mem_append_right _ (List.mem_append_right _ (List.mem_append_right _ (List.mem_append_right _ (List.mem_append_right _ (List.mem_append_right _ (List.mem_append_right _ (List.mem_append_right _ (List.mem_append_right _ (List.mem_append_left _ h)))))))))
theorem pg_t_wi {w : Cond} (h : w ∈ pg_wi) : w ∈ pg_Tb := List.mem_append_right _ (List.mem_append_right _ (List.mem_append_right _ (List.mem_append_right _ (List.mem_append_right _ (List.mem_append_right _ (List.mem_append_right _ (List.mem_append_right _ (List.mem_append_right _ (List.mem_append_right _ (List.mem_append_left _ h))))))))))
theorem pg_t_wK {w : Cond} (h : w ∈ pg_wK) : w ∈ pg_Tb := List.mem_append_right _ (List.mem_append_right _ (List.mem_append_right _ (List.mem_append_right _ (List.mem_append_right _ (List.mem_append_right _ (List.mem_append_right _ (List.mem_append_right _ (List.mem_append_right _ (List.mem_append_right _ (List.mem_append_right _ (List.mem_append_left _ h)))))))))))
theorem pg_t_wk {w : Cond} (h : w ∈ pg_wk) : w ∈ pg_Tb := List.mem_append_right _ (List.mem_append_right _ (List.mem_append_right _ (List.mem_append_right _ (List.mem_append_right _ (List.mem_append_right _ (List.mem_append_right _ (List.mem_append_right _ (List.mem_append_right _ (List.mem_append_right _ (List.mem_append_right _ (List.mem_append_right _ (List.mem_append_left _ h))))))))))))
theorem pg_t_wY {w : Cond} (h : w ∈ pg_wY) : w ∈ pg_Tb := List.mem_append_right _ (List.mem_append_right _ (List.mem_append_right _ (List.mem_append_right _ (List.mem_append_right _ (List.mem_append_right _ (List.mem_append_right _ (List.mem_append_right _ (List.mem_append_right _ (List.mem_append_right _ (List.mem_append_right _ (List.mem_append_right _ (List.mem_append_right _ (List.mem_append_left _ h)))))))))))))
theorem pg_t_wA {w : Cond} (h : w ∈ pg_wA) : w ∈ pg_Tb := List.mem_append_right _ (List.mem_append_right _ (List.mem_append_right _ (List.mem_append_right _ (List.mem_append_right _ (List.mem_append_right _ (List.mem_append_right _ (List.mem_append_right _ (List.mem_append_right _ (List.mem_append_right _ (List.mem_append_right _ (List.mem_append_right _ (List.mem_append_right _ (List.mem_append_right _ (List.mem_append_left _ h))))))))))))))
theorem pg_t_wO {w : Cond} (h : w ∈ pg_wO) : w ∈ pg_Tb := List.mem_append_right _ (List.mem_append_right _ (List.mem_append_right _ (List.mem_append_right _ (List.mem_append_right _ (List.mem_append_right _ (List.mem_append_right _ (List.mem_append_right _ (List.mem_append_right _ (List.mem_append_right _ (List.mem_append_right _ (List.mem_append_right _ (List.mem_append_right _ (List.mem_append_right _ (List.mem_append_right _ (List.mem_append_left _ h)))))))))))))))
theorem pg_t_wo {w : Cond} (h : w ∈ pg_wo) : w ∈ pg_Tb := List.mem_append_right _ (List.mem_append_right _ (List.mem_append_right _ (List.mem_append_right _ (List.mem_append_right _ (List.mem_append_right _ (List.mem_append_right _ (List.mem_append_right _ (List.mem_append_right _ (List.mem_append_right _ (List.mem_append_right _ (List.mem_append_right _ (List.mem_append_right _ (List.mem_append_right _ (List.mem_append_right _ (List.mem_append_right _ (List.mem_append_left _ h))))))))))))))))
theorem pg_t_wn {w : Cond} (h : w ∈ pg_wn) : w ∈ pg_Tb := List.mem_append_right _ (List.mem_append_right _ (List.mem_append_right _ (List.mem_append_right _ (List.mem_append_right _ (List.mem_append_right _ (List.mem_append_right _ (List.mem_append_right _ (List.mem_append_right _ (List.mem_append_right _ (List.mem_append_right _ (List.mem_append_right _ (List.mem_append_right _ (List.mem_append_right _ (List.mem_append_right _ (List.mem_append_right _ (List.mem_append_right _ (List.mem_append_left _ h)))))))))))))))))
theorem pg_t_ws {w : Cond} (h : w ∈ pg_ws) : w ∈ pg_Tb := List.mem_append_right _ (List.mem_append_right _ (List.mem_append_right _ (List.mem_append_right _ (List.mem_append_right _ (List.mem_append_right _ (List.mem_append_right _ (List.mem_append_right _ (List.mem_append_right _ (List.mem_append_right _ (List.mem_append_right _ (List.mem_append_right _ (List.mem_append_right _ (List.mem_append_right _ (List.mem_append_right _ (List.mem_append_right _ (List.mem_append_right _ (List.mem_append_right _ (h))))))))))))))))))
theorem pg_tab {w : Cond} (h : w ∈ tables_1) : w ∈ lw_tbl := List.mem_append_right _ h
theorem pg_tab1 {w : Cond} (h : w ∈ tables_1_1) : w ∈ lw_tbl := pg_tab (List.mem_append_left _ h)
theorem pg_tab2 {w : Cond} (h : w ∈ tables_1_2) : w ∈ lw_tbl := pg_tab (List.mem_append_right _ (List.mem_append_left _ h))
theorem pg_tab3 {w : Cond} (h : w ∈ tables_1_3) : w ∈ lw_tbl := pg_tab (List.mem_append_right _ (List.mem_append_right _ (List.mem_append_left _ h)))
theorem pg_tab4 {w : Cond} (h : w ∈ tables_1_4) : w ∈ lw_tbl := pg_tab (List.mem_append_right _ (List.mem_append_right _ (List.mem_append_right _ (List.mem_append_left _ h))))
theorem pg_tab5 {w : Cond} (h : w ∈ tables_1_5) : w ∈ lw_tbl := pg_tab (List.mem_append_right _ (List.mem_append_right _ (List.mem_append_right _ (List.mem_append_right _ (List.mem_append_left _ h)))))
theorem pg_tab6 {w : Cond} (h : w ∈ tables_1_6) : w ∈ lw_tbl := pg_tab (List.mem_append_right _ (List.mem_append_right _ (List.mem_append_right _ (List.mem_append_right _ (List.mem_append_right _ (List.mem_append_left _ h))))))
theorem pg_tab7 {w : Cond} (h : w ∈ tables_1_7) : w ∈ lw_tbl := pg_tab (List.mem_append_right _ (List.mem_append_right _ (List.mem_append_right _ (List.mem_append_right _ (List.mem_append_right _ (List.mem_append_right _ (List.mem_append_left _ h)))))))
theorem pg_tab8 {w : Cond} (h : w ∈ tables_1_8) : w ∈ lw_tbl := pg_tab (List.mem_append_right _ (List.mem_append_right _ (List.mem_append_right _ (List.mem_append_right _ (List.mem_append_right _ (List.mem_append_right _ (List.mem_append_right _ (h))))))))
theorem pg_iC {mi : Nat} (h1 : 1 ≤ mi) (h2 : mi < 318) : pg_code mi ∈ lw_tbl := by
  rcases (show (1 ≤ mi ∧ mi < 1 + 1) ∨ (2 ≤ mi ∧ mi < 2 + 6) ∨ (8 ≤ mi ∧ mi < 8 + 22) ∨ (30 ≤ mi ∧ mi < 30 + 52) ∨ (82 ≤ mi ∧ mi < 82 + 55) ∨ (137 ≤ mi ∧ mi < 137 + 55) ∨ (192 ≤ mi ∧ mi < 192 + 33) ∨ (225 ≤ mi ∧ mi < 225 + 59) ∨ (284 ≤ mi ∧ mi < 284 + 34) by omega) with q | q | q | q | q | q | q | q | q
  · have h3 : pg_code mi ∈ tables_1_1.filter k2_isCode := by
      rw [pg_c1]
      exact List.mem_append_left _ (List.mem_append_left _ (List.mem_map_of_mem (List.mem_range'_1.mpr q)))
    exact pg_tab1 (List.mem_filter.mp h3).1
  · have h3 : pg_code mi ∈ tables_1_1.filter k2_isCode := by
      rw [pg_c1]
      exact List.mem_append_right _ (List.mem_map_of_mem (List.mem_range'_1.mpr q))
    exact pg_tab1 (List.mem_filter.mp h3).1
  · have h3 : pg_code mi ∈ tables_1_2.filter k2_isCode := by
      rw [pg_c2]
      exact List.mem_map_of_mem (List.mem_range'_1.mpr q)
    exact pg_tab2 (List.mem_filter.mp h3).1
  · have h3 : pg_code mi ∈ tables_1_3.filter k2_isCode := by
      rw [pg_c3]
      exact List.mem_map_of_mem (List.mem_range'_1.mpr q)
    exact pg_tab3 (List.mem_filter.mp h3).1
  · have h3 : pg_code mi ∈ tables_1_4.filter k2_isCode := by
      rw [pg_c4]
      exact List.mem_map_of_mem (List.mem_range'_1.mpr q)
    exact pg_tab4 (List.mem_filter.mp h3).1
  · have h3 : pg_code mi ∈ tables_1_5.filter k2_isCode := by
      rw [pg_c5]
      exact List.mem_map_of_mem (List.mem_range'_1.mpr q)
    exact pg_tab5 (List.mem_filter.mp h3).1
  · have h3 : pg_code mi ∈ tables_1_6.filter k2_isCode := by
      rw [pg_c6]
      exact List.mem_map_of_mem (List.mem_range'_1.mpr q)
    exact pg_tab6 (List.mem_filter.mp h3).1
  · have h3 : pg_code mi ∈ tables_1_7.filter k2_isCode := by
      rw [pg_c7]
      exact List.mem_map_of_mem (List.mem_range'_1.mpr q)
    exact pg_tab7 (List.mem_filter.mp h3).1
  · have h3 : pg_code mi ∈ tables_1_8.filter k2_isCode := by
      rw [pg_c8]
      exact List.mem_map_of_mem (List.mem_range'_1.mpr q)
    exact pg_tab8 (List.mem_filter.mp h3).1
theorem pg_iwC {w : Cond} (h : w ∈ pg_wC) : w ∈ lw_tbl := by
  obtain ⟨mi, h1, rfl⟩ := List.mem_map.mp h
  have h2 := List.mem_range'_1.mp h1
  exact pg_iC h2.1 (by omega)
theorem pg_in_tbl {w : Cond} (h : w ∈ pg_Tb) : w ∈ lw_tbl := by
  unfold pg_Tb at h
  simp only [List.mem_append] at h
  rcases h with h | h | h | h | h | h | h | h | h | h | h | h | h | h | h | h | h | h | h
  · exact pg_sub_mem _ _ pg_iF _ h
  · exact pg_sub_mem _ _ pg_iFx _ h
  · exact pg_sub_mem _ _ pg_iM _ h
  · exact pg_sub_mem _ _ pg_iMx _ h
  · exact pg_iwC h
  · exact pg_sub_mem _ _ pg_iI _ h
  · exact pg_sub_mem _ _ pg_iS _ h
  · exact pg_sub_mem _ _ pg_iL _ h
  · exact pg_sub_mem _ _ pg_iN _ h
  · exact pg_sub_mem _ _ pg_il _ h
  · exact pg_sub_mem _ _ pg_ii _ h
  · exact pg_sub_mem _ _ pg_iK _ h
  · exact pg_sub_mem _ _ pg_ik _ h
  · exact pg_sub_mem _ _ pg_iY _ h
  · exact pg_sub_mem _ _ pg_iA _ h
  · exact pg_sub_mem _ _ pg_iO _ h
  · exact pg_sub_mem _ _ pg_io _ h
  · exact pg_sub_mem _ _ pg_in _ h
  · exact pg_sub_mem _ _ pg_is _ h
theorem pg_in_nws {w : Cond} (h : w ∈ pg_nws) : w ∈ lw_tbl := by
  rcases List.mem_append.mp h with h | h
  · exact pg_sub_mem _ _ pg_inF _ h
  · exact pg_sub_mem _ _ pg_inM _ h
theorem pg_nest : ∀ w ∈ pg_nws, pm_nestOk w := by
  intro w h
  rcases List.mem_append.mp h with h | h
  · obtain ⟨q, -, rfl⟩ := List.mem_map.mp h
    exact Or.inl ⟨_, _, _, _, _, _, rfl⟩
  · obtain ⟨q, -, rfl⟩ := List.mem_map.mp h
    exact Or.inr ⟨_, _, _, _, rfl⟩
theorem pg_gFx : ∀ w ∈ pg_Fx, goodWord w = true := by decide +kernel
theorem pg_gMx : ∀ w ∈ pg_Mx, goodWord w = true := by decide +kernel
theorem pg_good : ∀ w ∈ pg_Tb, goodWord w = true := by
  intro w h
  unfold pg_Tb at h
  simp only [List.mem_append] at h
  rcases h with h | h | h | h | h | h | h | h | h | h | h | h | h | h | h | h | h | h | h
  · obtain ⟨q, -, rfl⟩ := List.mem_map.mp h
    rfl
  · exact pg_gFx _ h
  · obtain ⟨q, -, rfl⟩ := List.mem_map.mp h
    rfl
  · exact pg_gMx _ h
  · obtain ⟨q, -, rfl⟩ := List.mem_map.mp h
    rfl
  · obtain ⟨q, -, rfl⟩ := List.mem_map.mp h
    rfl
  · obtain ⟨q, -, rfl⟩ := List.mem_map.mp h
    rfl
  · obtain ⟨q, -, rfl⟩ := List.mem_map.mp h
    rfl
  · obtain ⟨q, -, rfl⟩ := List.mem_map.mp h
    rfl
  · obtain ⟨q, -, rfl⟩ := List.mem_map.mp h
    rfl
  · obtain ⟨q, -, rfl⟩ := List.mem_map.mp h
    rfl
  · obtain ⟨q, -, rfl⟩ := List.mem_map.mp h
    rfl
  · obtain ⟨q, -, rfl⟩ := List.mem_map.mp h
    rfl
  · obtain ⟨q, -, rfl⟩ := List.mem_map.mp h
    unfold u_lay
    split <;> rfl
  · obtain ⟨q, -, rfl⟩ := List.mem_map.mp h
    rfl
  · rw [List.mem_singleton.mp h]; rfl
  · rw [List.mem_singleton.mp h]; rfl
  · rw [List.mem_singleton.mp h]; rfl
  · rw [List.mem_singleton.mp h]; rfl
def pg_cY (ci : Nat) : Bool := (List.range' 0 (pg_fs ci).length).all fun k => decide ((ci, k) ∈ pg_Ly) && ((parseFieldDescriptor (pg_T ci k).2.2.1).isSome && (decide ((parseFieldDescriptor (pg_T ci k).2.2.1).map defaultValue = some (vp_V (pg_fs ci) k)) && (List.range' 0 (pg_fs ci).length).all fun j => decide (k = j) || decide ((pg_T ci k).2.1 ≠ (pg_T ci j).2.1)))
set_option maxRecDepth 100000 in
theorem pg_cYs : (List.range' 0 13).all pg_cY = true := by decide +kernel
theorem pg_cY_at {ci k : Nat} (hc : ci < 13) (hk : k < (pg_fs ci).length) : (ci, k) ∈ pg_Ly ∧ (parseFieldDescriptor (pg_T ci k).2.2.1).isSome = true ∧ (parseFieldDescriptor (pg_T ci k).2.2.1).map defaultValue = some (vp_V (pg_fs ci) k) ∧ ∀ j, j < (pg_fs ci).length → k ≠ j → (pg_T ci k).2.1 ≠ (pg_T ci j).2.1 := by
  have h1 : pg_cY ci = true := pg_range pg_cYs (Nat.zero_le _) (by omega)
  have h2 := pg_range h1 (Nat.zero_le _) (show k < 0 + (pg_fs ci).length by omega)
  simp only [Bool.and_eq_true, decide_eq_true_eq] at h2
  refine ⟨h2.1, h2.2.1, h2.2.2.1, fun j hj hkj => ?_⟩
  have h3 := pg_range h2.2.2.2 (Nat.zero_le _) (show j < 0 + (pg_fs ci).length by omega)
  simp only [Bool.or_eq_true, decide_eq_true_eq] at h3
  exact h3.resolve_left hkj
theorem pg_okC : pm_okC pg_Tb pg_cl := by
  intro ci q hq
  have hci := pg_cl_lt hq
  rw [pg_cl_at ci hci] at hq
  cases hq
  refine ⟨fun w hw => ?_, ⟨fun k => (parseFieldDescriptor (pg_T ci k).2.2.1).getD .int, fun k hk => ?_⟩, fun a ha c hc hne => ?_⟩
  · obtain ⟨k, hk, rfl⟩ := List.mem_map.mp hw
    exact pg_t_wY (List.mem_map.mpr ⟨(ci, k), (pg_cY_at hci (List.mem_range.mp hk)).1, rfl⟩)
  · have h := (pg_cY_at hci hk).2.1
    show parseFieldDescriptor (pg_T ci k).2.2.1 = some ((parseFieldDescriptor (pg_T ci k).2.2.1).getD .int)
    cases hp : parseFieldDescriptor (pg_T ci k).2.2.1 with
    | none => rw [hp] at h; cases h
    | some t => rfl
  · exact (pg_cY_at hci ha).2.2.2 c hc hne
theorem pg_cFs : (pg_F.all fun q => decide (q.2.2.1 < 13) && decide (q.2.2.2 < (pg_fs q.2.2.1).length)) = true := by decide +kernel
theorem pg_cFNs : (pg_FN.all fun q => decide (q.2.2.1 < 13) && decide (q.2.2.2 < (pg_fs q.2.2.1).length)) = true := by decide +kernel
theorem pg_lF {mi k ci j : Nat} (hm : mi < 319) (h : pg_or (pg_look pg_F (pg_pc mi) k) (pg_look pg_FN (pg_pc mi) k) = some (ci, j)) : ci < 13 ∧ j < (pg_fs ci).length ∧ pm_okF pg_Tb pg_nws (pg_y mi).cls k (pg_T ci) j := by
  rw [pg_cls hm]
  rcases pg_or_of h with h | h
  · have h1 := pg_look_mem _ _ _ _ h
    have h2 := List.all_eq_true.mp pg_cFs _ h1
    simp only [Bool.and_eq_true, decide_eq_true_eq] at h2
    exact ⟨h2.1, h2.2, Or.inl (pg_t_wF (List.mem_map.mpr ⟨_, h1, rfl⟩))⟩
  · have h1 := pg_look_mem _ _ _ _ h
    have h2 := List.all_eq_true.mp pg_cFNs _ h1
    simp only [Bool.and_eq_true, decide_eq_true_eq] at h2
    exact ⟨h2.1, h2.2, Or.inr ⟨_, List.mem_append_left _ (List.mem_map.mpr ⟨_, h1, rfl⟩)⟩⟩
theorem pg_okG : pm_okG pg_Tb pg_nws pg_cl pg_y pg := by
  intro mi k ci j h
  obtain ⟨hm, h⟩ := pg_gd_of h
  obtain ⟨h1, h2, h3⟩ := pg_lF hm h
  exact ⟨_, pg_cl_at ci h1, h2, h3⟩
def pg_cP (q : Nat × Nat × Nat × Nat × FieldType) : Bool := decide (q.1 < 319) && (decide (parseFieldDescriptor (pg_T q.2.2.1 q.2.2.2.1).2.2.1 = some q.2.2.2.2) && (decide (pg_or (pg_look pg_F (pg_pc q.1) q.2.1) (pg_look pg_FN (pg_pc q.1) q.2.1) = some (q.2.2.1, q.2.2.2.1)) && cond (pg_T q.2.2.1 q.2.2.2.1).2.2.2 (decide ((pg_y q.1).name = "<init>") && (decide ((pg_T q.2.2.1 q.2.2.2.1).1 = (pg_y q.1).cls) && decide (pg_look pg_F (pg_pc q.1) q.2.1 = some (q.2.2.1, q.2.2.2.1)))) true))
set_option maxRecDepth 100000 in
theorem pg_cPs : pg_P.all pg_cP = true := by decide +kernel
theorem pg_okP : pm_okP pg_Tb pg_nws pg_cl pg_y pg := by
  intro mi k ci j ty h
  have h0 := pg_look_mem pg_P mi k (ci, j, ty) h
  have h1 := List.all_eq_true.mp pg_cPs _ h0
  unfold pg_cP at h1
  simp only [Bool.and_eq_true, decide_eq_true_eq] at h1
  obtain ⟨hm, hty, hl, hf⟩ := h1
  obtain ⟨h2, h3, h4⟩ := pg_lF hm hl
  refine ⟨_, pg_cl_at ci h2, h3, hty, ?_⟩
  cases hb : (pg_T ci j).2.2.2 with
  | false => exact Or.inl ⟨rfl, h4⟩
  | true =>
    rw [hb] at hf
    simp only [cond_true, Bool.and_eq_true, decide_eq_true_eq] at hf
    refine Or.inr ⟨rfl, hf.1, hf.2.1, ?_⟩
    rw [pg_cls hm]
    exact pg_t_wF (List.mem_map.mpr ⟨_, pg_look_mem _ _ _ _ hf.2.2, rfl⟩)
theorem pg_okK : pm_okK pg_Tb pg_y pg := by
  constructor
  · intro mi k v h
    obtain ⟨hm, h⟩ := pg_gd_of h
    rw [pg_cls hm]
    exact pg_t_wK (List.mem_map.mpr ⟨_, pg_look_mem _ _ _ _ h, rfl⟩)
  · intro mi k v h
    obtain ⟨hm, h⟩ := pg_gd_of h
    rw [pg_cls hm]
    exact pg_t_wk (List.mem_map.mpr ⟨_, pg_look_mem _ _ _ _ h, rfl⟩)
theorem pg_at {mi pc : Nat} {i : Instr} (h : pm_dec pg mi pc = some i) : mi < 319 ∧ (∃ n, decode (pg_cd mi) pc = .ok (i, n) ∧ (pm_sz i = 0 ∨ n = pm_sz i)) ∧ pg_chk2 mi i = true := by
  have h : pg_dec mi pc = some i := h
  have hg : mi < 319 ∧ pc < pg_len mi := by
    unfold pg_dec at h
    cases hb : Nat.blt mi pg_n with
    | false => rw [hb] at h; cases h
    | true =>
      rw [hb] at h
      cases hc : Nat.blt pc (pg_len mi) with
      | false => rw [hc] at h; cases h
      | true =>
        rw [Nat.blt_eq] at hb hc
        exact ⟨hb, hc⟩
  have h1 := pg_all hg.1 hg.2
  unfold pg_chk1 at h1
  rw [h] at h1
  simp only [Bool.and_eq_true] at h1
  refine ⟨hg.1, ?_, h1.2⟩
  have h2 := h1.1
  split at h2
  · rename_i i' n hd
    simp only [Bool.and_eq_true, decide_eq_true_eq, Bool.or_eq_true] at h2
    obtain ⟨rfl, h3⟩ := h2
    exact ⟨n, hd, h3.elim (fun z => Or.inl (Nat.eq_of_beq_eq_true z)) (fun z => Or.inr (Nat.eq_of_beq_eq_true z))⟩
  · cases h2
theorem pg_okD : pm_okD pg_cd pg := fun _ _ _ h => (pg_at h).2.1
theorem pg_okM {mj n : Nat} (h : pg_cM mj n = true) : pm_okM pg_Tb pg_y pg_cd pg mj n := by
  unfold pg_cM at h
  simp only [Bool.and_eq_true, decide_eq_true_eq] at h
  obtain ⟨⟨h1, h2⟩, h3, h4, h5, h6⟩ := h
  exact ⟨h3, pg_t_wC (List.mem_map.mpr ⟨mj, List.mem_range'_1.mpr ⟨h1, by omega⟩, rfl⟩), pg_t_wN (List.mem_map.mpr ⟨_, h4, rfl⟩), h5, Nat.le_of_ble_eq_true h6⟩
theorem pg_okL {mi k mj n : Nat} (h : pm_cal pg mi k = some (mj, n)) : pm_okL pg_Tb pg_nws (pg_y mi).cls k (pg_y mj) := by
  obtain ⟨hm, h⟩ := pg_gd_of h
  rw [pg_cls hm]
  rcases pg_or_of h with h | h
  · exact Or.inl (pg_t_wM (List.mem_map.mpr ⟨_, pg_look_mem _ _ _ _ h, rfl⟩))
  · exact Or.inr ⟨_, List.mem_append_right _ (List.mem_map.mpr ⟨_, pg_look_mem _ _ _ _ h, rfl⟩)⟩
theorem pg_okV : pm_okV pg_Tb pg_nws pg_cl pg_y pg_cd pg := by
  intro mi pc k mj n hd hc
  obtain ⟨-, -, h⟩ := pg_at hd
  unfold pg_chk2 at h
  simp only at h
  rw [hc] at h
  simp only [Bool.and_eq_true, decide_eq_true_eq] at h
  obtain ⟨h1, h2, h3, h4⟩ := h
  refine ⟨pg_okM h1, pg_okL hc, pg_t_wI (List.mem_map.mpr ⟨mj, h2, rfl⟩), pg_t_wL (List.mem_map.mpr ⟨mj, h3, rfl⟩), ?_⟩
  unfold pg_cH at h4
  cases hb : Nat.beq (pm_hom pg mj) 1000 with
  | true =>
    rw [hb] at h4
    exact Or.inl ⟨Nat.eq_of_beq_eq_true hb, of_decide_eq_true h4⟩
  | false =>
    rw [hb] at h4
    simp only [cond_false, Bool.and_eq_true, decide_eq_true_eq] at h4
    exact Or.inr ⟨_, pg_cl_at _ h4.1, h4.2⟩
theorem pg_okS : pm_okS pg_Tb pg_nws pg_y pg_cd pg := by
  intro mi pc k mj n hd hc
  obtain ⟨-, -, h⟩ := pg_at hd
  unfold pg_chk2 at h
  simp only at h
  rw [hc] at h
  simp only [Bool.and_eq_true, decide_eq_true_eq] at h
  exact ⟨pg_okM h.1, pg_okL hc, pg_t_wS (List.mem_map.mpr ⟨mj, h.2, rfl⟩)⟩
theorem pg_okI : pm_okI pg_Tb pg_nws pg_y pg_cd pg := by
  intro mi pc k mj n hd hc h0
  obtain ⟨-, -, h⟩ := pg_at hd
  unfold pg_chk2 at h
  simp only at h
  rw [hc] at h
  simp only [Bool.and_eq_true, decide_eq_true_eq, Bool.or_eq_true] at h
  have h := h.resolve_left (fun z => h0 (Nat.eq_of_beq_eq_true z))
  exact ⟨pg_okM h.1, pg_okL hc, h.2.1, pg_t_wI (List.mem_map.mpr ⟨mj, h.2.2.1, rfl⟩), h.2.2.2⟩
theorem pg_noOs : (pg_MN.all fun q => decide (pg_y q.2.2.1 ≠ pg_y 0)) = true := by decide +kernel
theorem pg_noO (q : Nat × Nat × Nat × Nat) (h : q ∈ pg_MN) : pg_y q.2.2.1 ≠ pg_y 0 := of_decide_eq_true (List.all_eq_true.mp pg_noOs _ h)
theorem pg_okO : pm_okO pg_Tb pg_y pg := by
  intro mi pc k n hd hc
  refine ⟨?_, pg_t_wO List.mem_cons_self, pg_t_wo List.mem_cons_self⟩
  rcases pg_okL hc with h | ⟨host, h⟩
  · exact h
  · exfalso
    obtain ⟨hm, hc⟩ := pg_gd_of hc
    rcases List.mem_append.mp h with h | h
    · obtain ⟨q, -, hq⟩ := List.mem_map.mp h
      cases hq
    · obtain ⟨q, hq1, hq2⟩ := List.mem_map.mp h
      have e1 : pg_y q.2.2.1 = pg_y 0 := by
        injection hq2
      exact pg_noO q hq1 e1
theorem pg_cNs : (pg_Cl.all fun q => decide (q.2.2 < 13) && (decide (q.2.2 ∈ pg_Ci) && decide (pg_R q.2.2 ∈ pg_In))) = true := by decide +kernel
theorem pg_okN : pm_okN pg_Tb pg_cl pg_y pg := by
  intro mi k ci fs h
  obtain ⟨hm, h⟩ := pg_gd_of h
  cases hl : pg_look pg_Cl (pg_pc mi) k with
  | none => rw [hl] at h; cases h
  | some c =>
    rw [hl] at h
    cases h
    have h1 := pg_look_mem _ _ _ _ hl
    have h2 := List.all_eq_true.mp pg_cNs _ h1
    simp only [Bool.and_eq_true, decide_eq_true_eq] at h2
    refine ⟨_, pg_cl_at _ h2.1, ?_, pg_t_wi (List.mem_map.mpr ⟨_, h2.2.1, rfl⟩), pg_t_wN (List.mem_map.mpr ⟨_, h2.2.2, rfl⟩), rfl, fun j hj => (pg_cY_at h2.1 hj).2.2.1⟩
    rw [pg_cls hm]
    exact pg_t_wl (List.mem_map.mpr ⟨_, h1, rfl⟩)
theorem pg_cAs : (pg_An.all fun q => (pg_Cl.any fun r => decide (r.1 = q.1 ∧ r.2.1 = q.2.1 ∧ pg_tyl[q.2.2]? = some (.object (pg_R r.2.2)) ∧ pg_R r.2.2 ∈ pg_aos))) = true := by decide +kernel
theorem pg_okA : pm_okA pg_Tb pg_tyl pg_aos pg_y pg := by
  constructor
  · intro mi pc a hd
    obtain ⟨-, -, h⟩ := pg_at hd
    unfold pg_chk2 at h
    simp only [decide_eq_true_eq] at h
    exact pg_t_wA (List.mem_map.mpr ⟨_, h, rfl⟩)
  · intro mi k t h
    obtain ⟨hm, h⟩ := pg_gd_of h
    have h1 := pg_look_mem _ _ _ _ h
    have h2 := List.all_eq_true.mp pg_cAs _ h1
    obtain ⟨⟨r1, r2, r3⟩, hr, h3⟩ := List.any_eq_true.mp h2
    simp only [decide_eq_true_eq] at h3
    obtain ⟨rfl, rfl, h5, h6⟩ := h3
    refine ⟨_, h5, ?_, h6⟩
    rw [pg_cls hm]
    exact pg_t_wl (List.mem_map.mpr ⟨_, hr, rfl⟩)
theorem pg_cTs : (pg_St.all fun q => (pg_sts.any fun r => decide (r.2.2.2 = q.2.2) && decide (Cond.fieldLink (pg_pn q.1) q.2.1 r.1 r.2.1 r.2.2.1 ∈ pg_Fx))) = true := by decide +kernel
theorem pg_okT : pm_okT pg_Tb pg_nws pg_sts pg_y pg := by
  intro mi k v h
  obtain ⟨hm, h⟩ := pg_gd_of h
  have h2 := List.all_eq_true.mp pg_cTs _ (pg_look_mem _ _ _ _ h)
  obtain ⟨⟨C, nm, ds, v'⟩, hr, h3⟩ := List.any_eq_true.mp h2
  simp only [Bool.and_eq_true, decide_eq_true_eq] at h3
  obtain ⟨rfl, h4⟩ := h3
  refine ⟨C, nm, ds, hr, Or.inl ?_⟩
  rw [pg_cls hm]
  exact pg_t_Fx h4
theorem pg_cRs : (pg_Sr.all fun q => (pg_srs.any fun r => decide (r.1 = pg_pn q.1 ∧ r.2.1 = q.2.1 ∧ r.2.2.2 = q.2.2))) = true := by decide +kernel
theorem pg_okR : pm_okR pg_srs pg_y pg := by
  intro mi k j h
  obtain ⟨hm, h⟩ := pg_gd_of h
  have h2 := List.all_eq_true.mp pg_cRs _ (pg_look_mem _ _ _ _ h)
  obtain ⟨⟨C, k', tx, j'⟩, hr, h3⟩ := List.any_eq_true.mp h2
  simp only [decide_eq_true_eq] at h3
  obtain ⟨rfl, rfl, rfl⟩ := h3
  exact ⟨tx, by rw [pg_cls hm]; exact hr⟩
theorem pg_cUs : (pg_Gs.all fun q => decide ((q.2.2 = 0 → Cond.fieldLink (pg_pn q.1) q.2.1 "java/lang/String" "coder" "B" ∈ pg_Fx) ∧ (q.2.2 = 1 → Cond.fieldLink (pg_pn q.1) q.2.1 "java/lang/String" "value" "[B" ∈ pg_Fx))) = true := by decide +kernel
theorem pg_okU : pm_okU pg_Tb pg_y pg := by
  constructor
  · intro mi k h
    obtain ⟨hm, h⟩ := pg_gd_of h
    have h2 := of_decide_eq_true (List.all_eq_true.mp pg_cUs _ (pg_look_mem _ _ _ _ h))
    rw [pg_cls hm]
    exact pg_t_Fx (h2.1 rfl)
  · intro mi k h
    obtain ⟨hm, h⟩ := pg_gd_of h
    have h2 := of_decide_eq_true (List.all_eq_true.mp pg_cUs _ (pg_look_mem _ _ _ _ h))
    rw [pg_cls hm]
    exact pg_t_Fx (h2.2 rfl)
theorem pg_cZs : (pg_nt.all fun q => decide ((q.2.2 = 0 → Cond.methodLink (pg_pn q.1) q.2.1 arraycopyName ∈ pg_Mx) ∧ (q.2.2 = 1 → Cond.methodLink (pg_pn q.1) q.2.1 Lib.Math.max.name ∈ pg_Mx) ∧ (q.2.2 = 2 → Cond.methodLink (pg_pn q.1) q.2.1 Lib.Math.min.name ∈ pg_Mx) ∧ (q.2.2 = 3 → Cond.methodLink (pg_pn q.1) q.2.1 Lib.Math.abs.name ∈ pg_Mx))) = true := by decide +kernel
theorem pg_nSy : Cond.initialized "java/lang/System" ∈ pg_Tb := pg_t_wN (List.mem_map.mpr ⟨"java/lang/System", by decide +kernel, rfl⟩)
theorem pg_nMa : Cond.initialized "java/lang/Math" ∈ pg_Tb := pg_t_wN (List.mem_map.mpr ⟨"java/lang/Math", by decide +kernel, rfl⟩)
theorem pg_okY : pm_okY pg_Tb pg_y pg := by
  refine ⟨fun mi k h => ?_, fun mi k h => ?_, fun mi k h => ?_, fun mi k h => ?_⟩
  · obtain ⟨hm, h⟩ := pg_gd_of h
    have h2 := of_decide_eq_true (List.all_eq_true.mp pg_cZs _ (pg_look_mem _ _ _ _ h))
    rw [pg_cls hm]
    exact ⟨pg_t_Mx (h2.1 rfl), pg_t_wn List.mem_cons_self, pg_t_ws List.mem_cons_self, pg_nSy⟩
  · obtain ⟨hm, h⟩ := pg_gd_of h
    have h2 := of_decide_eq_true (List.all_eq_true.mp pg_cZs _ (pg_look_mem _ _ _ _ h))
    rw [pg_cls hm]
    exact ⟨pg_t_Mx (h2.2.1 rfl), pg_t_wS (List.mem_map.mpr ⟨51, by decide +kernel, rfl⟩), pg_nMa, pg_t_wC (List.mem_map.mpr ⟨51, by decide +kernel, rfl⟩)⟩
  · obtain ⟨hm, h⟩ := pg_gd_of h
    have h2 := of_decide_eq_true (List.all_eq_true.mp pg_cZs _ (pg_look_mem _ _ _ _ h))
    rw [pg_cls hm]
    exact ⟨pg_t_Mx (h2.2.2.1 rfl), pg_t_wS (List.mem_map.mpr ⟨22, by decide +kernel, rfl⟩), pg_nMa, pg_t_wC (List.mem_map.mpr ⟨22, by decide +kernel, rfl⟩)⟩
  · obtain ⟨hm, h⟩ := pg_gd_of h
    have h2 := of_decide_eq_true (List.all_eq_true.mp pg_cZs _ (pg_look_mem _ _ _ _ h))
    rw [pg_cls hm]
    exact ⟨pg_t_Mx (h2.2.2.2 rfl), pg_t_wS (List.mem_map.mpr ⟨95, by decide +kernel, rfl⟩), pg_nMa, pg_t_wC (List.mem_map.mpr ⟨95, by decide +kernel, rfl⟩)⟩
/-- THE PROGRAM IS ONE OF THE PURE MACHINE'S -/
theorem pg_ok : pm_ok pg_Tb pg_nws pg_aos pg_tyl pg_cl pg_y pg_cd pg pg_sts pg_srs :=
  ⟨⟨pg_okD, pg_okC, pg_okG, pg_okP, pg_okK, rfl, rfl, rfl⟩, pg_good, pg_nest, pg_okV, pg_okS, pg_okI, pg_okO, pg_okN, pg_okA, ⟨pg_okT, pg_okR, pg_okU, pg_okY⟩, fun ci h => by
    rcases Nat.lt_or_ge ci 1000 with z | z
    · exact z
    · exact absurd (List.getElem?_eq_none (Nat.le_trans (show pg_cl.length ≤ 1000 by decide) z)) h⟩
