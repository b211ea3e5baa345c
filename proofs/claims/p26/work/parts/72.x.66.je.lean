/-! ===== rings for a want: which there are, which is best ===== -/
section JEA
variable {R : Nat → Nat → Int} {y : Int} {P a b m c m' c' d p i j x t q : Nat} {G G' : Nat → Nat → Int} {V V' : Nat → Nat → Prop}
/-- who is at i in the ring of m with number c -/
def elN (a b m c i : Nat) : Nat := if i = 0 then a else if i = 1 then b else c / 9 ^ (m - 1 - i) % 9
/-- better: the measure, then shorter, then the lesser number -/
def BTt (G : Nat → Nat → Int) (m c m' c' : Nat) : Prop := G m' c' < G m c ∨ (G m c = G m' c' ∧ (m < m' ∨ (m = m' ∧ c < c')))
def BSt (G : Nat → Nat → Int) (V : Nat → Nat → Prop) (m c : Nat) : Prop := V m c ∧ ∀ m' c', V m' c' → (m' = m ∧ c' = c) ∨ BTt G m c m' c'
theorem BTt_as (h1 : BTt G m c m' c') (h2 : BTt G m' c' m c) : False := by
  unfold BTt at h1 h2
  omega
theorem BSt_uq (h1 : BSt G V m c) (h2 : BSt G V m' c') : m = m' ∧ c = c' := by
  rcases h1.2 m' c' h2.1 with q | q
  · exact ⟨q.1.symm, q.2.symm⟩
  · rcases h2.2 m c h1.1 with q2 | q2
    · exact q2
    · exact (BTt_as q q2).elim
end JEA
