/-! ===== need: a flow with prices costs what is lacking ===== -/
section KFA
variable {i j m u P W t s a b d q N n0 : Nat} {x y e g : Int} {R ask F h c : Nat → Nat → Int} {A B : Nat → Nat} {n o π f : Nat → Int} {S : Nat → Bool} {S1 S2 : Bool}
theorem bz_2 : bz S1 (bz S2 x) = bz (S1 && S2) x := by cases S1 <;> rfl
theorem cutC_2 : cutC h S N = suI (fun a => suI (fun b => bz (S a && !S b) (h a b)) N) N := by
  unfold cutC
  refine suI_cg N (fun a _ => ?_)
  show bz (S a) (suI (fun b => bz (!S b) (h a b)) N) = _
  rw [bz_s]
  exact suI_cg N (fun b _ => bz_2)
theorem psI_2 : psI x - psI (-x) = x := by unfold psI; omega
/-- what a cut is worth: all that is over, but what is over on its side, and what goes across -/
theorem CUT_e : CUTo c o S N = suI (fun a => psI (o a)) N - suI (fun a => bz (S a) (o a)) N + cutC c S N := by
  unfold CUTo
  rw [← suI_sub]
  refine congrArg (fun z => z + cutC c S N) (suI_cg N (fun a _ => ?_))
  show bz (!S a) (psI (o a)) + bz (S a) (psI (-o a)) = psI (o a) - bz (S a) (o a)
  have q := psI_2 (x := o a)
  cases S a with
  | true => show 0 + psI (-o a) = psI (o a) - o a; omega
  | false => show psI (o a) + 0 = psI (o a) - 0; omega
theorem min_i : ∀ N, 1 ≤ N → ∃ a, a < N ∧ ∀ b, b < N → π a ≤ π b
  | 0, h => absurd h (by decide)
  | 1, _ => ⟨0, by decide, fun b hb => by rw [show b = 0 by omega]; exact Int.le_refl _⟩
  | N + 2, _ => by
    obtain ⟨a, h1, h2⟩ := min_i (N + 1) (by omega)
    by_cases c : π a ≤ π (N + 1)
    · refine ⟨a, by omega, fun b hb => ?_⟩
      by_cases e : b = N + 1
      · rw [e]; exact c
      · exact h2 b (by omega)
    · refine ⟨N + 1, by omega, fun b hb => ?_⟩
      by_cases e : b = N + 1
      · rw [e]; exact Int.le_refl _
      · have := h2 b (by omega)
        omega
/-- what the words must grow by, for a flow F beside what is asked -/
def grF (R ask F : Nat → Nat → Int) (P : Nat) : Int := suI (fun a => suI (fun b => if a = b then 0 else psI (ask a b + F a b - R a b)) P) P
theorem LKS_flg (P1 : 1 ≤ P) (hP : P ≤ 9) (hF : ∀ a b, a < P → b < P → 0 ≤ F a b) (ho : ∀ p, P ≤ p → o p = 0) (hv : ∀ a, a < P → suI (fun b => F a b - F b a) P = o a) (hd : ∀ a, a < P → ask a a ≤ R a a) (h1 : ∀ a b, a < P → b < P → a ≠ b → π b - π a ≤ if 0 < R a b - ask a b - F a b then 0 else 1) (h2 : ∀ a b, a < P → b < P → a ≠ b → 0 < F a b → (if R a b - ask a b - F a b < 0 then (1 : Int) else 0) ≤ π b - π a) : ∃ x : Int, MCo (capS R ask P 0) o 10 x ∧ grF R ask F P = lackS R ask P + (suI (fun p => psI (o p)) 10 - x) := by
  -- what each costs beyond what is asked
  have diff : grF R ask F P - lackS R ask P = suI (fun a => suI (fun b => if a = b then 0 else psI (F a b - psI (R a b - ask a b))) P) P := by
    unfold grF lackS
    rw [← suI_sub]
    refine suI_cg P (fun a ha => ?_)
    show suI _ P - suI _ P = _
    rw [← suI_sub]
    refine suI_cg P (fun b hb => ?_)
    show (if a = b then 0 else psI (ask a b + F a b - R a b)) - psI (ask a b - R a b) = if a = b then 0 else psI (F a b - psI (R a b - ask a b))
    have f0 := hF a b ha hb
    by_cases e : a = b
    · rw [if_pos e, if_pos e]
      have q := hd a ha
      rw [← e]
      unfold psI
      omega
    · rw [if_neg e, if_neg e]
      unfold psI
      omega
  have cut : ∀ S : Nat → Bool, suI (fun a => bz (S a) (o a)) 10 - cutC (capS R ask P 0) S 10 = suI (fun a => suI (fun b => bz (S a && !S b) (F a b - F b a - psI (R a b - ask a b))) P) P := by
    intro S
    have e1 : suI (fun a => bz (S a) (o a)) 10 = suI (fun a => bz (S a) (o a)) P := suI_ext (by omega) (fun i hi _ => by
      show bz (S i) (o i) = 0
      rw [ho i hi]
      cases S i <;> rfl)
    have e2 : suI (fun a => bz (S a) (o a)) P = cutC (fun a b => F a b - F b a) S P := by
      rw [← net_S (h := fun a b => F a b - F b a) (fun a b _ _ => by show F a b - F b a = -(F b a - F a b); omega)]
      exact suI_cg P (fun a ha => by
        show bz (S a) (o a) = bz (S a) (suI (fun b => F a b - F b a) P)
        rw [hv a ha])
    have e3 : cutC (capS R ask P 0) S 10 = cutC (capS R ask P 0) S P := cutC_ext (by omega) (fun a b _ _ hab => by
      unfold capS
      rw [if_neg (by omega)]
      split <;> rfl)
    rw [e1, e2, e3, cutC_2, cutC_2, ← suI_sub]
    refine suI_cg P (fun a ha => ?_)
    show suI _ P - suI _ P = _
    rw [← suI_sub]
    refine suI_cg P (fun b hb => ?_)
    show bz (S a && !S b) (F a b - F b a) - bz (S a && !S b) (capS R ask P 0 a b) = bz (S a && !S b) (F a b - F b a - psI (R a b - ask a b))
    have ec : capS R ask P 0 a b = psI (R a b - ask a b) := if_pos ⟨ha, hb⟩
    rw [ec]
    cases S a && !S b with
    | true => rfl
    | false => rfl
  have low : ∀ S : Nat → Bool, suI (fun a => bz (S a) (o a)) 10 - cutC (capS R ask P 0) S 10 ≤ grF R ask F P - lackS R ask P := by
    intro S
    rw [cut S, diff]
    refine suI_le P (fun a ha => suI_le P (fun b hb => ?_))
    have f0 := hF a b ha hb
    have f1 := hF b a hb ha
    have nn : 0 ≤ psI (F a b - psI (R a b - ask a b)) := by unfold psI; omega
    by_cases e : a = b
    · rw [if_pos e, e]
      cases S b <;> exact Int.le_refl _
    · rw [if_neg e]
      cases S a && !S b with
      | true =>
        show F a b - F b a - psI (R a b - ask a b) ≤ _
        unfold psI
        omega
      | false => exact nn
  obtain ⟨a0, l0, lm⟩ := min_i (π := π) P P1
  have two : ∀ b, b < P → π b = π a0 ∨ π b = π a0 + 1 := by
    intro b hb
    have q := lm b hb
    by_cases e : a0 = b
    · rw [e]; exact Or.inl rfl
    · have q2 := h1 a0 b l0 hb e
      split at q2 <;> omega
  obtain ⟨S, hS⟩ : ∃ S : Nat → Bool, S = fun p => decide (π p = π a0) := ⟨_, rfl⟩
  have eq : suI (fun a => bz (S a) (o a)) 10 - cutC (capS R ask P 0) S 10 = grF R ask F P - lackS R ask P := by
    rw [cut S, diff]
    refine suI_cg P (fun a ha => suI_cg P (fun b hb => ?_))
    show bz (S a && !S b) (F a b - F b a - psI (R a b - ask a b)) = if a = b then 0 else psI (F a b - psI (R a b - ask a b))
    have f0 := hF a b ha hb
    have f1 := hF b a hb ha
    by_cases e : a = b
    · rw [if_pos e, e]
      cases S b <;> rfl
    · rw [if_neg e]
      have x1 := h1 a b ha hb e
      have x2 := h2 a b ha hb e
      have x3 := h2 b a hb ha (fun z => e z.symm)
      have ta := two a ha
      have tb := two b hb
      have sa : S a = decide (π a = π a0) := by rw [hS]
      have sb : S b = decide (π b = π a0) := by rw [hS]
      by_cases ca : π a = π a0
      · rw [sa, decide_eq_true ca]
        by_cases cb : π b = π a0
        · rw [sb, decide_eq_true cb]
          show 0 = _
          by_cases c0 : 0 < F a b
          · have y := x2 c0
            split at y
            · omega
            · unfold psI
              omega
          · unfold psI
            omega
        · rw [sb, decide_eq_false cb]
          show F a b - F b a - psI (R a b - ask a b) = _
          have z : F b a = 0 := by
            by_cases c0 : 0 < F b a
            · have y := x3 c0
              split at y <;> omega
            · omega
          split at x1
          · omega
          · unfold psI
            omega
      · rw [sa, decide_eq_false ca]
        show 0 = _
        by_cases c0 : 0 < F a b
        · have y := x2 c0
          split at y
          · omega
          · unfold psI
            omega
        · unfold psI
          omega
  refine ⟨suI (fun p => psI (o p)) 10 - (grF R ask F P - lackS R ask P), ⟨fun S' => ?_, S, ?_⟩, by omega⟩
  · have q := low S'
    rw [CUT_e]
    omega
  · rw [CUT_e]
    omega
theorem LKS_fl (P1 : 1 ≤ P) (hP : P ≤ 9) (hF : ∀ a b, a < P → b < P → 0 ≤ F a b) (ho : ∀ p, P ≤ p → surS A B n s W p = 0) (hv : ∀ a, a < P → suI (fun b => F a b - F b a) P = surS A B n s W a) (hd : ∀ a, a < P → askS A B n s W a a ≤ R a a) (h1 : ∀ a b, a < P → b < P → a ≠ b → π b - π a ≤ if 0 < R a b - askS A B n s W a b - F a b then 0 else 1) (h2 : ∀ a b, a < P → b < P → a ≠ b → 0 < F a b → (if R a b - askS A B n s W a b - F a b < 0 then (1 : Int) else 0) ≤ π b - π a) : LKS R P W A B n s (grF R (askS A B n s W) F P) := LKS_flg P1 hP hF ho hv hd h1 h2
end KFA
