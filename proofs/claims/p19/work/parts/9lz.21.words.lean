/-! ===== the words of the program stand in the tables ===== -/
def pg_sub : List Cond → List Cond → Bool
  | [], _ => true
  | _ :: _, [] => false
  | a :: as, c :: cs => if a = c then pg_sub as cs else pg_sub (a :: as) cs
theorem pg_sub_mem : ∀ (cs as : List Cond), pg_sub as cs = true → ∀ w ∈ as, w ∈ cs
  | cs, [], _, w, hw => by cases hw
  | [], a :: as, h, w, hw => by cases h
  | c :: cs, a :: as, h, w, hw => by
    unfold pg_sub at h
    split at h
    · rename_i e
      subst e
      rcases List.mem_cons.mp hw with rfl | hw
      · exact List.mem_cons_self
      · exact List.mem_cons_of_mem _ (pg_sub_mem cs as h w hw)
    · exact List.mem_cons_of_mem _ (pg_sub_mem cs (a :: as) h w hw)
set_option maxRecDepth 100000
theorem pg_iF : pg_sub pg_wF lw_tbl = true := by decide +kernel
theorem pg_iFx : pg_sub pg_Fx lw_tbl = true := by decide +kernel
theorem pg_iM : pg_sub pg_wM lw_tbl = true := by decide +kernel
theorem pg_iMx : pg_sub pg_Mx lw_tbl = true := by decide +kernel
theorem pg_iI : pg_sub pg_wI lw_tbl = true := by decide +kernel
theorem pg_iS : pg_sub pg_wS lw_tbl = true := by decide +kernel
theorem pg_iL : pg_sub pg_wL lw_tbl = true := by decide +kernel
theorem pg_iN : pg_sub pg_wN lw_tbl = true := by decide +kernel
theorem pg_il : pg_sub pg_wl lw_tbl = true := by decide +kernel
theorem pg_ii : pg_sub pg_wi lw_tbl = true := by decide +kernel
theorem pg_iK : pg_sub pg_wK lw_tbl = true := by decide +kernel
theorem pg_ik : pg_sub pg_wk lw_tbl = true := by decide +kernel
theorem pg_iY : pg_sub pg_wY lw_tbl = true := by decide +kernel
theorem pg_iA : pg_sub pg_wA lw_tbl = true := by decide +kernel
theorem pg_iO : pg_sub pg_wO lw_tbl = true := by decide +kernel
theorem pg_io : pg_sub pg_wo lw_tbl = true := by decide +kernel
theorem pg_in : pg_sub pg_wn lw_tbl = true := by decide +kernel
theorem pg_is : pg_sub pg_ws lw_tbl = true := by decide +kernel
theorem pg_inF : pg_sub pg_nF lw_tbl = true := by decide +kernel
theorem pg_inM : pg_sub pg_nM lw_tbl = true := by decide +kernel
