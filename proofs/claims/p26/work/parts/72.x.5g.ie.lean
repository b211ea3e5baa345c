/-! ===== ways back, pushing along ===== -/
section IEP
variable {n m i j s t k x a p : Nat} {c r r' r0 : Nat → Nat → Int} {pr ρ : Nat → Nat} {lab root : Nat → Bool} {d : Int}
def itr (pr : Nat → Nat) (x : Nat) : Nat → Nat
  | 0 => x
  | j + 1 => pr (itr pr x j)
/-- each that is labelled is a root or has a labelled one before it -/
def PTH (n : Nat) (pr : Nat → Nat) (lab root : Nat → Bool) (ρ : Nat → Nat) : Prop := ∀ x, x < n → lab x = true → root x = true ∨ (pr x < n ∧ lab (pr x) = true ∧ ρ (pr x) < ρ x)
theorem itr_in (h : PTH n pr lab root ρ) (hx : x < n) (hl : lab x = true) : ∀ j, (∀ i, i < j → root (itr pr x i) = false) → itr pr x j < n ∧ lab (itr pr x j) = true ∧ ρ (itr pr x j) + j ≤ ρ x := by
  intro j
  induction j with
  | zero => intro _; exact ⟨hx, hl, Nat.le_refl _⟩
  | succ j ih =>
    intro hr
    obtain ⟨a1, a2, a3⟩ := ih (fun i hi => hr i (by omega))
    rcases h _ a1 a2 with q | ⟨q1, q2, q3⟩
    · rw [hr j (by omega)] at q; exact Bool.noConfusion q
    · refine ⟨q1, q2, ?_⟩
      show ρ (pr (itr pr x j)) + (j + 1) ≤ ρ x
      omega
theorem itr_add : ∀ j, itr pr (itr pr x i) j = itr pr x (i + j)
  | 0 => rfl
  | j + 1 => by show pr (itr pr (itr pr x i) j) = pr (itr pr x (i + j)); rw [itr_add j]
theorem itr_lt (h : PTH n pr lab root ρ) (hx : x < n) (hl : lab x = true) (hij : i < j) (hr : ∀ l, l < j → root (itr pr x l) = false) : ρ (itr pr x j) < ρ (itr pr x i) := by
  obtain ⟨a1, a2, _⟩ := itr_in h hx hl i (fun l hl => hr l (by omega))
  have q := itr_in h a1 a2 (j - i) (fun l hl => by rw [itr_add]; exact hr _ (by omega))
  rw [itr_add, show i + (j - i) = j by omega] at q
  omega
theorem itr_ne (h : PTH n pr lab root ρ) (hx : x < n) (hl : lab x = true) (hij : i < j) (hr : ∀ l, l < j → root (itr pr x l) = false) : itr pr x i ≠ itr pr x j := by
  have q := itr_lt h hx hl hij hr
  intro e
  rw [e] at q
  omega
/-- d more on the way from p to x -/
def PSH (r r' : Nat → Nat → Int) (n p x : Nat) (d : Int) : Prop := ∀ a b, a < n → b < n → r' a b = r a b - (if a = p ∧ b = x then d else 0) + (if a = x ∧ b = p then d else 0)
theorem PSH_gone (hp : p < n) (hx : x < n) (h : PSH r r' n p x d) (ha : a < n) : gone c r' n a = gone c r n a + (if a = p then d else 0) - (if a = x then d else 0) := by
  unfold gone
  have e : suI (fun b => c a b - r' a b) n = suI (fun b => (c a b - r a b) + ((if b = x then (if a = p then d else 0) else 0) - (if b = p then (if a = x then d else 0) else 0))) n := by
    refine suI_cg n (fun b hb => ?_)
    rw [h a b ha hb]
    by_cases e1 : a = p <;> by_cases e2 : b = x <;> by_cases e3 : a = x <;> by_cases e4 : b = p <;> simp [e1, e2, e3, e4] <;> omega
  have e2 : suI (fun b => (if b = x then (if a = p then d else 0) else 0) - (if b = p then (if a = x then d else 0) else 0)) n = (if a = p then d else 0) - (if a = x then d else 0) := by
    rw [suI_sub n, suI_one n hx, suI_one n hp]
  rw [e, suI_add n, e2]
  omega
theorem PSH_F (hne : p ≠ x) (hp : p < n) (hx : x < n) (hd : 0 ≤ d) (hF : FLW c r n) (h : PSH r r' n p x d) (hr : d ≤ r p x) : FLW c r' n := by
  refine ⟨fun a b ha hb hab => ?_, fun a b ha hb => ?_⟩
  · rw [h a b ha hb]
    have q := hF.1 a b ha hb hab
    by_cases e : a = p ∧ b = x
    · obtain ⟨e1, e2⟩ := e
      subst e1
      subst e2
      rw [if_pos ⟨rfl, rfl⟩, if_neg (fun z => hne z.1)]
      omega
    · rw [if_neg e]
      split <;> omega
  · rw [h a b ha hb, h b a hb ha]
    have q := hF.2 a b ha hb
    by_cases e1 : a = p ∧ b = x
    · obtain ⟨e1, e2⟩ := e1
      subst e1
      subst e2
      rw [if_pos ⟨rfl, rfl⟩, if_neg (fun z => hne z.1), if_neg (fun z => hne z.2), if_pos ⟨rfl, rfl⟩]
      omega
    · by_cases e2 : a = x ∧ b = p
      · obtain ⟨e2, e3⟩ := e2
        subst e2
        subst e3
        rw [if_neg (fun z => hne z.2), if_pos ⟨rfl, rfl⟩, if_pos ⟨rfl, rfl⟩, if_neg (fun z => hne z.1)]
        omega
      · rw [if_neg e1, if_neg e2, if_neg (fun z => e2 ⟨z.2, z.1⟩), if_neg (fun z => e1 ⟨z.2, z.1⟩)]
        omega
/-- where a way has been pushed along, up to its j-th -/
def PSJ (c r0 r : Nat → Nat → Int) (n : Nat) (pr : Nat → Nat) (x J j : Nat) (d : Int) : Prop := FLW c r n ∧ (∀ i, j ≤ i → i < J → d ≤ r (itr pr x (i + 1)) (itr pr x i)) ∧ ∀ a, a < n → gone c r n a = gone c r0 n a + (if a = itr pr x j then d else 0) - (if a = x then d else 0)
theorem PSJ_0 {J : Nat} (hF : FLW c r0 n) (h : ∀ i, i < J → d ≤ r0 (itr pr x (i + 1)) (itr pr x i)) : PSJ c r0 r0 n pr x J 0 d := by
  refine ⟨hF, fun i _ hi => h i hi, fun a _ => ?_⟩
  show _ = _ + (if a = x then d else 0) - _
  omega
theorem PSJ_s {J : Nat} (hP : PTH n pr lab root ρ) (hx : x < n) (hl : lab x = true) (hr : ∀ i, i < J → root (itr pr x i) = false) (hd : 0 ≤ d) (hj : j < J) (h : PSJ c r0 r n pr x J j d) (hp : PSH r r' n (itr pr x (j + 1)) (itr pr x j) d) : PSJ c r0 r' n pr x J (j + 1) d := by
  obtain ⟨h1, h2, h3⟩ := h
  obtain ⟨b1, _, _⟩ := itr_in hP hx hl (j + 1) (fun i hi => hr i (by omega))
  obtain ⟨b2, _, _⟩ := itr_in hP hx hl j (fun i hi => hr i (by omega))
  have ne := itr_ne hP hx hl (show j < j + 1 by omega) (fun i hi => hr i (by omega))
  refine ⟨PSH_F (fun e => ne e.symm) b1 b2 hd h1 hp (h2 j (Nat.le_refl j) hj), fun i hi hiJ => ?_, fun a ha => ?_⟩
  · obtain ⟨c1, _, _⟩ := itr_in hP hx hl (i + 1) (fun l hl => hr l (by omega))
    obtain ⟨c2, _, _⟩ := itr_in hP hx hl i (fun l hl => hr l (by omega))
    have n1 := itr_ne hP hx hl (show j < i by omega) (fun l hl => hr l (by omega))
    have n2 := itr_ne hP hx hl (show j < i + 1 by omega) (fun l hl => hr l (by omega))
    rw [hp _ _ c1 c2, if_neg (fun z => n1 z.2.symm), if_neg (fun z => n2 z.1.symm)]
    have := h2 i (by omega) hiJ
    omega
  · rw [PSH_gone b1 b2 hp ha, h3 a ha]
    omega
end IEP
