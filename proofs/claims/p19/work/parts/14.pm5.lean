/-! ===== the pure machine against the machine ===== -/
theorem pm_set_len {w : pm_W} {k : Nat} {e : pm_E} : (w.set k e).length = w.length := List.length_set
set_option maxHeartbeats 4000000 in
set_option maxRecDepth 100000 in
theorem pm_one_len {G : pm_G} {X : pm_X} {tyl : List FieldType} {cl : List vw_C} {mi pc : Nat} {i : Instr} {ls st : List Value} {w : pm_W} {r : pm_C} (h : pm_one G X tyl cl mi i pc ls st w = some r) : r.2.2.2.length = w.length := by
  cases i with
  | baload =>
    simp only [pm_one] at h
    rcases pm_oc_of h with h | h <;> (obtain ⟨_, _, _, _, rfl, _⟩ := pm_iald_of h; rfl)
  | bastore =>
    simp only [pm_one] at h
    rcases pm_oc_of h with h | h <;> (obtain ⟨_, _, _, _, _, _, _, _, rfl⟩ := pm_iast_of h; exact List.length_set)
  | _ => (simp only [pm_one, pm_iload, pm_lload, pm_aload, pm_istore, pm_lstore, pm_astore, pm_ii, pm_ll, pm_if1, pm_if2, pm_br, pm_jmp, pm_iald, pm_copy, pm_iast, reduceCtorEq] at h) <;> (repeat' split at h) <;> first | (cases h; first | rfl | exact List.length_set) | cases h
theorem pm_add_of {c n : Nat} {x : Option pm_R} {r : Option Value} {w : pm_W} {mc ms : Nat} (h : pm_add c n x = some (r, w, mc, ms)) : ∃ c' n', x = some (r, w, c', n') ∧ mc = c + c' ∧ ms = n + n' := by
  rcases x with _ | ⟨r', w', c', n'⟩
  · cases h
  · cases h
    exact ⟨c', n', rfl, rfl, rfl⟩
theorem pm_wlen {G : pm_G} {X : pm_X} {tyl : List FieldType} {cl : List vw_C} : ∀ (f d mi pc : Nat) (ls st : List Value) (w : pm_W) (r : Option Value) (w' : pm_W) (mc ms : Nat), pm G X tyl cl f d mi pc ls st w = some (r, w', mc, ms) → w'.length = w.length + mc := by
  intro f
  induction f with
  | zero => intro d mi pc ls st w r w' mc ms h; cases h
  | succ f ih =>
    intro d mi pc ls st w r w' mc ms h
    simp only [pm] at h
    split at h
    · cases h
    · split at h
      · rename_i h1
        rw [ih _ _ _ _ _ _ _ _ _ _ h]
        exact congrArg (· + mc) (pm_one_len h1)
      · split at h
        · split at h
          · rename_i h1
            obtain ⟨c', n', h2, rfl, rfl⟩ := pm_add_of h
            rw [ih _ _ _ _ _ _ _ _ _ _ h2, ih _ _ _ _ _ _ _ _ _ _ h1, Nat.add_assoc]
          · cases h
        · split at h
          · cases h; rfl
          · split at h
            · exact ih _ _ _ _ _ _ _ _ _ _ h
            · split at h
              · obtain ⟨c', n', h2, rfl, rfl⟩ := pm_add_of h
                rw [ih _ _ _ _ _ _ _ _ _ _ h2, List.length_append, Nat.add_assoc]
                rfl
              · cases h
