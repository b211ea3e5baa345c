/-! ===== runs of the pure machine: more fuel, parts of a run ===== -/
section PMT
variable {G : pm_G} {X : pm_X} {tyl : List FieldType} {cl : List vw_C}
/-- one step of the recursion, over what the rest of the run answers -/
def pm_body (G : pm_G) (X : pm_X) (tyl : List FieldType) (cl : List vw_C) (rec : Nat → Nat → Nat → List Value → List Value → pm_W → Option pm_R) (d mi pc : Nat) (ls st : List Value) (w : pm_W) : Option pm_R := match pm_dec G mi pc with
  | none => none
  | some i => match pm_one G X tyl cl mi i pc ls st w with
    | some (pc', ls', st', w') => rec d mi pc' ls' st' w'
    | none => match pm_cll G X mi i d st w with
      | some (mj, d', vs, st') => match rec d' mj 0 (pm_ent (pm_max G mj) vs) [] w with
        | some (r, w', c, n) => pm_add c n (rec d mi (pc + 3) ls (pm_push r st') w')
        | none => none
      | none => match pm_end G mi i st with
        | some r => some (r, w, 0, 0)
        | none => match pm_obi G mi i st with
          | some st' => rec d mi (pc + 3) ls st' w
          | none => match pm_mk G mi i st with
            | some (k, st', c, n) => pm_add 1 n (rec d mi (pc + k) ls (.ref w.length :: st') (w ++ [c]))
            | none => none
theorem pm_succ (f d mi pc : Nat) (ls st : List Value) (w : pm_W) : pm G X tyl cl (f + 1) d mi pc ls st w = pm_body G X tyl cl (pm G X tyl cl f) d mi pc ls st w := by
  rw [pm]
  rfl
theorem pm_body_mono {rec rec' : Nat → Nat → Nat → List Value → List Value → pm_W → Option pm_R} (hr : ∀ d mi pc ls st w r, rec d mi pc ls st w = some r → rec' d mi pc ls st w = some r) {d mi pc : Nat} {ls st : List Value} {w : pm_W} {r : pm_R} (h : pm_body G X tyl cl rec d mi pc ls st w = some r) : pm_body G X tyl cl rec' d mi pc ls st w = some r := by
  unfold pm_body at h ⊢
  split at h
  · cases h
  · split at h
    · exact hr _ _ _ _ _ _ _ h
    · split at h
      · split at h
        · rename_i h1
          obtain ⟨r1, w1, mc, ms⟩ := r
          obtain ⟨c2, n2, h2, rfl, rfl⟩ := pm_add_of h
          rw [hr _ _ _ _ _ _ _ h1]
          show pm_add _ _ (rec' _ _ _ _ _ _) = _
          rw [hr _ _ _ _ _ _ _ h2]
          rfl
        · cases h
      · split at h
        · exact h
        · split at h
          · exact hr _ _ _ _ _ _ _ h
          · split at h
            · obtain ⟨r1, w1, mc, ms⟩ := r
              obtain ⟨c2, n2, h2, rfl, rfl⟩ := pm_add_of h
              show pm_add _ _ (rec' _ _ _ _ _ _) = _
              rw [hr _ _ _ _ _ _ _ h2]
              rfl
            · cases h
theorem pm_mono1 : ∀ (f d mi pc : Nat) (ls st : List Value) (w : pm_W) (r : pm_R), pm G X tyl cl f d mi pc ls st w = some r → pm G X tyl cl (f + 1) d mi pc ls st w = some r := by
  intro f
  induction f with
  | zero => intro d mi pc ls st w r h; cases h
  | succ f ih =>
    intro d mi pc ls st w r h
    rw [pm_succ] at h ⊢
    exact pm_body_mono ih h
theorem pm_mono {f f' d mi pc : Nat} {ls st : List Value} {w : pm_W} {r : pm_R} (hf : f ≤ f') (h : pm G X tyl cl f d mi pc ls st w = some r) : pm G X tyl cl f' d mi pc ls st w = some r := by
  induction hf with
  | refl => exact h
  | step _ ih => exact pm_mono1 _ _ _ _ _ _ _ _ ih
/-- the run from here ends, and its end is in Q -/
def pmE (G : pm_G) (X : pm_X) (tyl : List FieldType) (cl : List vw_C) (d mi pc : Nat) (ls st : List Value) (w : pm_W) (Q : pm_R → Prop) : Prop := ∃ f r, pm G X tyl cl f d mi pc ls st w = some r ∧ Q r
variable {d mi pc : Nat} {ls st : List Value} {w : pm_W} {Q : pm_R → Prop} {i : Instr}
theorem pmE.one {pc' : Nat} {ls' st' : List Value} {w' : pm_W} (hd : pm_dec G mi pc = some i) (h : pm_one G X tyl cl mi i pc ls st w = some (pc', ls', st', w')) (k : pmE G X tyl cl d mi pc' ls' st' w' Q) : pmE G X tyl cl d mi pc ls st w Q := by
  obtain ⟨f, r, h1, h2⟩ := k
  refine ⟨f + 1, r, ?_, h2⟩
  rw [pm_succ]
  unfold pm_body
  rw [hd]
  simp only [h]
  exact h1
theorem pmE.ends {r : Option Value} (hd : pm_dec G mi pc = some i) (h : pm_one G X tyl cl mi i pc ls st w = none) (hc : pm_cll G X mi i d st w = none) (he : pm_end G mi i st = some r) (k : Q (r, w, 0, 0)) : pmE G X tyl cl d mi pc ls st w Q := by
  refine ⟨1, _, ?_, k⟩
  rw [pm_succ]
  unfold pm_body
  rw [hd]
  simp only [h, hc, he]
theorem pmE.call {mj d' : Nat} {vs st' : List Value} {Q1 : pm_R → Prop} (hd : pm_dec G mi pc = some i) (h : pm_one G X tyl cl mi i pc ls st w = none) (hc : pm_cll G X mi i d st w = some (mj, d', vs, st')) (k1 : pmE G X tyl cl d' mj 0 (pm_ent (pm_max G mj) vs) [] w Q1)
    (k : ∀ (r : Option Value) (w' : pm_W) (c n : Nat), Q1 (r, w', c, n) → pmE G X tyl cl d mi (pc + 3) ls (pm_push r st') w' (fun q => Q (q.1, q.2.1, c + q.2.2.1, n + q.2.2.2))) : pmE G X tyl cl d mi pc ls st w Q := by
  obtain ⟨f1, ⟨r1, w1, c1, n1⟩, h1, q1⟩ := k1
  obtain ⟨f2, ⟨r2, w2, c2, n2⟩, h2, q2⟩ := k r1 w1 c1 n1 q1
  refine ⟨max f1 f2 + 1, (r2, w2, c1 + c2, n1 + n2), ?_, q2⟩
  rw [pm_succ]
  unfold pm_body
  rw [hd]
  simp only [h, hc]
  rw [pm_mono (Nat.le_max_left f1 f2) h1]
  simp only
  rw [pm_mono (Nat.le_max_right f1 f2) h2]
  rfl
theorem pmE.obi {st' : List Value} (hd : pm_dec G mi pc = some i) (h : pm_one G X tyl cl mi i pc ls st w = none) (hc : pm_cll G X mi i d st w = none) (he : pm_end G mi i st = none) (ho : pm_obi G mi i st = some st') (k : pmE G X tyl cl d mi (pc + 3) ls st' w Q) : pmE G X tyl cl d mi pc ls st w Q := by
  obtain ⟨f, r, h1, h2⟩ := k
  refine ⟨f + 1, r, ?_, h2⟩
  rw [pm_succ]
  unfold pm_body
  rw [hd]
  simp only [h, hc, he, ho]
  exact h1
theorem pmE.mk {j : Nat} {st' : List Value} {E : pm_E} {n : Nat} (hd : pm_dec G mi pc = some i) (h : pm_one G X tyl cl mi i pc ls st w = none) (hc : pm_cll G X mi i d st w = none) (he : pm_end G mi i st = none) (ho : pm_obi G mi i st = none) (hm : pm_mk G mi i st = some (j, st', E, n)) (k : pmE G X tyl cl d mi (pc + j) ls (.ref w.length :: st') (w ++ [E]) (fun q => Q (q.1, q.2.1, 1 + q.2.2.1, n + q.2.2.2))) : pmE G X tyl cl d mi pc ls st w Q := by
  obtain ⟨f, ⟨r2, w2, c2, n2⟩, h1, h2⟩ := k
  refine ⟨f + 1, (r2, w2, 1 + c2, n + n2), ?_, h2⟩
  rw [pm_succ]
  unfold pm_body
  rw [hd]
  simp only [h, hc, he, ho, hm]
  rw [h1]
  rfl
theorem pmE.imp {Q' : pm_R → Prop} (h : pmE G X tyl cl d mi pc ls st w Q) (k : ∀ r, Q r → Q' r) : pmE G X tyl cl d mi pc ls st w Q' := by
  obtain ⟨f, r, h1, h2⟩ := h
  exact ⟨f, r, h1, k r h2⟩
theorem pmE.of {f : Nat} {r : pm_R} (h : pm G X tyl cl f d mi pc ls st w = some r) (k : Q r) : pmE G X tyl cl d mi pc ls st w Q := ⟨f, r, h, k⟩
end PMT
