set_option maxRecDepth 1000000 in
/-- the law's start: two fresh objects -/
theorem law_pre {xs : List Int32} {Q : pm_R → Prop} (k : pmE pg (pg_X xs) pg_tyl pg_cl 41 318 18 [.retAddr 0, .ref 0, .ref 147, .int 0] [] fw_0 (fun q => Q (q.1, q.2.1, 167 + q.2.2.1, 18328 + q.2.2.2))) : pmE pg (pg_X xs) pg_tyl pg_cl 41 318 0 (pm_ent 4 [.retAddr 0]) [] [] Q := by
  have hX : ∀ j v, (fun _ => none : pm_X) j = some v → pg_X xs j = some v := fun j v h => by cases h
  refine pmE.mk (i := .new 7) (j := 3) (st' := []) (E := .inr (11, pg_fs 11)) (n := 11) (by decide +kernel) rfl rfl rfl rfl rfl ?_
  refine pe_dup (by decide +kernel) rfl ?_
  refine pe_callI (j := 9) (mj := 1) (d' := 40) (vs := [.ref 0]) (st' := [.ref 0]) (by decide +kernel) rfl (pmE.of (pm_moreX hX _ _ _ _ _ _ _ _ fr_1) ?_)
  show pmE pg (pg_X xs) pg_tyl pg_cl 41 318 7 _ [.ref 0] fw_1 _
  refine pe_astore_n (j := 1) (ls' := [_, _, _, _]) (by decide +kernel) (by decide) rfl ?_
  refine pmE.mk (i := .new 10) (j := 3) (st' := []) (E := .inr (12, pg_fs 12)) (n := 36) (by decide +kernel) rfl rfl rfl rfl rfl ?_
  show pmE pg (pg_X xs) pg_tyl pg_cl 41 318 11 _ [.ref 147] (fw_1 ++ [.inr (12, pg_fs 12)]) _
  refine pe_dup (by decide +kernel) rfl ?_
  refine pe_callI (j := 12) (mj := 195) (d' := 40) (vs := [.ref 147]) (st' := [.ref 147]) (by decide +kernel) rfl (pmE.of (pm_moreX hX _ _ _ _ _ _ _ _ fr_2) ?_)
  show pmE pg (pg_X xs) pg_tyl pg_cl 41 318 15 _ [.ref 147] fw_0 _
  refine pe_astore_n (j := 2) (ls' := [_, _, _, _]) (by decide +kernel) (by decide) rfl ?_
  refine pe_iconstv (n := 0) (v := 0) (by decide +kernel) (by decide +kernel) ?_
  refine pe_istore_n (j := 3) (ls' := [_, _, _, _]) (by decide +kernel) (by decide) rfl ?_
  refine pmE.imp k (fun q h => ?_)
  obtain ⟨r, w, c, n⟩ := q
  have e1 : 1 + (146 + (1 + (19 + c))) = 167 + c := by omega
  have e2 : 11 + (9906 + (36 + (8375 + n))) = 18328 + n := by omega
  show Q (r, w, 1 + (146 + (1 + (19 + c))), 11 + (9906 + (36 + (8375 + n))))
  rw [e1, e2]
  exact h
