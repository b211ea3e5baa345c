/-! ===== a run that needs fewer cells outside is a run with more of them ===== -/
section PMX
variable {G : pm_G} {X X' : pm_X} {tyl : List FieldType} {cl : List vw_C} {mi pc d : Nat} {i : Instr} {ls st : List Value} {w : pm_W} {r : pm_C}
theorem pm_iald_X (hX : ∀ j v, X j = some v → X' j = some v) {t : Nat} (h : pm_iald X t pc ls st w = some r) : pm_iald X' t pc ls st w = some r := by
  obtain ⟨k, st', xs, hi, rfl, ⟨a, rfl, hw⟩ | ⟨j, q, rfl, hx⟩⟩ := pm_iald_of h
  · exact h
  · unfold pm_iald at h ⊢
    simp only at h ⊢
    rw [hx] at h
    rw [hX _ _ hx]
    exact h
theorem pm_oc_l {x : Option pm_C} {z : Option pm_C} (h : x = some r) : pm_oc x z = some r := by rw [h]; rfl
set_option maxHeartbeats 4000000 in
theorem pm_one_X (hX : ∀ j v, X j = some v → X' j = some v) (h : pm_one G X tyl cl mi i pc ls st w = some r) : pm_one G X' tyl cl mi i pc ls st w = some r := by
  cases i with
  | iaload =>
    simp only [pm_one] at h ⊢
    exact pm_iald_X hX h
  | baload =>
    simp only [pm_one] at h ⊢
    cases h1 : pm_iald X 1 pc ls st w with
    | some q =>
      rw [h1] at h
      cases h
      exact pm_oc_l (pm_iald_X hX h1)
    | none =>
      rw [h1] at h
      have h : pm_iald (fun _ => none) 2 pc ls st w = some r := h
      obtain ⟨k, st', xs, hi, rfl, ⟨a, rfl, hw⟩ | ⟨j, q, rfl, hx⟩⟩ := pm_iald_of h
      · have h3 : pm_iald X' 1 pc ls (.int k :: .ref a :: st') w = none := h1
        rw [h3]
        exact h
      · cases hx
  | arraylength =>
    simp only [pm_one] at h ⊢
    split at h
    · split at h
      · rename_i hx
        rw [hX _ _ hx]
        exact h
      · cases h
    · exact h
    · cases h
  | getfield k =>
    simp only [pm_one] at h ⊢
    split at h
    · split at h
      · rename_i hx
        rw [hX _ _ hx]
        exact h
      · cases h
    · exact h
    · cases h
  | _ => exact h
theorem pm_rcv_X (hX : ∀ j v, X j = some v → X' j = some v) {v : Value} (h : pm_rcv G X w mi v = true) : pm_rcv G X' w mi v = true := by
  cases v with
  | retAddr j =>
    unfold pm_rcv at h ⊢
    simp only at h ⊢
    split at h
    · rename_i hx
      rw [hX _ _ hx]
      exact h
    · cases h
  | _ => exact h
theorem pm_cll_X (hX : ∀ j v, X j = some v → X' j = some v) {q : Nat × Nat × List Value × List Value} (h : pm_cll G X mi i d st w = some q) : pm_cll G X' mi i d st w = some q := by
  cases i with
  | invokevirtual k =>
    unfold pm_cll at h ⊢
    simp only at h ⊢
    split at h
    · split at h
      · split at h
        · rename_i hc
          rw [if_pos ⟨pm_rcv_X hX hc.1, hc.2⟩]
          exact h
        · cases h
      · cases h
    · cases h
  | _ => exact h
set_option maxHeartbeats 4000000 in
/-- where something else than pm_one answers, pm_one has no answer, however many cells lie outside -/
theorem pm_none_X (h : pm_one G X tyl cl mi i pc ls st w = none) (hs : (∃ q, pm_cll G X mi i d st w = some q) ∨ (∃ q, pm_end G mi i st = some q) ∨ (∃ q, pm_obi G mi i st = some q) ∨ ∃ q, pm_mk G mi i st = some q) : pm_one G X' tyl cl mi i pc ls st w = none := by
  cases i with
  | invokestatic k => exact h
  | invokevirtual k => rfl
  | invokespecial k => rfl
  | ireturn => rfl
  | lreturn => rfl
  | areturn => rfl
  | return_ => rfl
  | new k => rfl
  | newarray k => rfl
  | anewarray k => rfl
  | _ => rcases hs with ⟨q, hq⟩ | ⟨q, hq⟩ | ⟨q, hq⟩ | ⟨q, hq⟩ <;> cases hq
set_option maxHeartbeats 4000000 in
theorem pm_cln_X (h : pm_cll G X mi i d st w = none) (hs : (∃ q, pm_end G mi i st = some q) ∨ (∃ q, pm_obi G mi i st = some q) ∨ ∃ q, pm_mk G mi i st = some q) : pm_cll G X' mi i d st w = none := by
  cases i with
  | invokevirtual k => rcases hs with ⟨q, hq⟩ | ⟨q, hq⟩ | ⟨q, hq⟩ <;> cases hq
  | _ => exact h
theorem pm_moreX (hX : ∀ j v, X j = some v → X' j = some v) : ∀ (f d mi pc : Nat) (ls st : List Value) (w : pm_W) (r : pm_R), pm G X tyl cl f d mi pc ls st w = some r → pm G X' tyl cl f d mi pc ls st w = some r := by
  intro f
  induction f with
  | zero => intro d mi pc ls st w r h; cases h
  | succ f ih =>
    intro d mi pc ls st w r h
    rw [pm_succ] at h ⊢
    unfold pm_body at h ⊢
    split at h
    · cases h
    · split at h
      · rename_i h1
        simp only [pm_one_X hX h1]
        exact ih _ _ _ _ _ _ _ h
      · rename_i h1
        split at h
        · rename_i h2
          simp only [pm_none_X (X' := X') h1 (Or.inl ⟨_, h2⟩), pm_cll_X hX h2]
          split at h
          · rename_i h3
            obtain ⟨r1, w1, mc, ms⟩ := r
            obtain ⟨c2, n2, h4, rfl, rfl⟩ := pm_add_of h
            rw [ih _ _ _ _ _ _ _ h3]
            show pm_add _ _ (pm G X' tyl cl f _ _ _ _ _ _) = _
            rw [ih _ _ _ _ _ _ _ h4]
            rfl
          · cases h
        · rename_i h2
          split at h
          · rename_i h3
            simp only [pm_none_X (d := d) (X' := X') h1 (Or.inr (Or.inl ⟨_, h3⟩)), pm_cln_X (X' := X') h2 (Or.inl ⟨_, h3⟩), h3]
            exact h
          · rename_i h3
            split at h
            · rename_i h4
              simp only [pm_none_X (d := d) (X' := X') h1 (Or.inr (Or.inr (Or.inl ⟨_, h4⟩))), pm_cln_X (X' := X') h2 (Or.inr (Or.inl ⟨_, h4⟩)), h3, h4]
              exact ih _ _ _ _ _ _ _ h
            · rename_i h4
              split at h
              · rename_i h5
                obtain ⟨r1, w1, mc, ms⟩ := r
                obtain ⟨c2, n2, h6, rfl, rfl⟩ := pm_add_of h
                simp only [pm_none_X (d := d) (X' := X') h1 (Or.inr (Or.inr (Or.inr ⟨_, h5⟩))), pm_cln_X (X' := X') h2 (Or.inr (Or.inr ⟨_, h5⟩)), h3, h4, h5]
                rw [ih _ _ _ _ _ _ _ h6]
                rfl
              · cases h
end PMX
