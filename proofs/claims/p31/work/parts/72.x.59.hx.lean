/-! ===== steps from one to others in a graph of at most nine ===== -/
section HXR
variable {E : Nat → Nat → Bool} {P s k j b a n i : Nat} {f g c d : Nat → Bool} {x y : Int32} {B : Nat}
/-- who is reached in at most so many steps -/
def RCH (E : Nat → Nat → Bool) (P s : Nat) : Nat → Nat → Bool
  | 0, b => decide (b = s)
  | k + 1, b => RCH E P s k b || anN (fun a => RCH E P s k a && E a b) P
def cntN (f : Nat → Bool) : Nat → Nat
  | 0 => 0
  | n + 1 => cntN f n + if f n = true then 1 else 0
theorem anN_t : ∀ n, anN f n = true ↔ ∃ K, K < n ∧ f K = true
  | 0 => ⟨fun h => Bool.noConfusion h, fun ⟨K, h, _⟩ => absurd h (Nat.not_lt_zero K)⟩
  | n + 1 => by
    have ih := anN_t n
    show (anN f n || f n) = true ↔ _
    rw [Bool.or_eq_true, ih]
    constructor
    · rintro (⟨K, h1, h2⟩ | h)
      · exact ⟨K, by omega, h2⟩
      · exact ⟨n, by omega, h⟩
    · rintro ⟨K, h1, h2⟩
      by_cases e : K = n
      · rw [e] at h2; exact Or.inr h2
      · exact Or.inl ⟨K, by omega, h2⟩
theorem cntN_le : ∀ n, cntN f n ≤ n
  | 0 => Nat.le_refl 0
  | n + 1 => by
    have ih := cntN_le n
    unfold cntN
    split <;> omega
theorem cntN_mono : ∀ n, (∀ i, i < n → f i = true → g i = true) → cntN f n ≤ cntN g n
  | 0, _ => Nat.le_refl 0
  | n + 1, h => by
    have ih := cntN_mono n (fun i hi => h i (by omega))
    have q := h n (by omega)
    unfold cntN
    by_cases e : f n = true
    · rw [if_pos e, if_pos (q e)]; omega
    · rw [if_neg e]; split <;> omega
theorem cntN_lt : ∀ n, (∀ i, i < n → f i = true → g i = true) → (∃ i, i < n ∧ g i = true ∧ f i = false) → cntN f n < cntN g n
  | 0, _, ⟨i, h, _⟩ => absurd h (Nat.not_lt_zero i)
  | n + 1, h, ⟨i, h1, h2, h3⟩ => by
    have q := h n (by omega)
    unfold cntN
    by_cases e : i = n
    · subst e
      have ih := cntN_mono i (fun j hj => h j (by omega))
      rw [h3, h2, if_neg (by decide), if_pos rfl]
      omega
    · have ih := cntN_lt n (fun j hj => h j (by omega)) ⟨i, by omega, h2, h3⟩
      by_cases e2 : f n = true
      · rw [if_pos e2, if_pos (q e2)]; omega
      · rw [if_neg e2]; split <;> omega
theorem cntN_all : ∀ n, n ≤ cntN f n → ∀ i, i < n → f i = true
  | 0, _, i, hi => absurd hi (Nat.not_lt_zero i)
  | n + 1, h, i, hi => by
    have l : cntN f n ≤ n := cntN_le n
    unfold cntN at h
    by_cases e : f n = true
    · rw [if_pos e] at h
      by_cases e2 : i = n
      · rw [e2]; exact e
      · exact cntN_all n (by omega) i (by omega)
    · rw [if_neg e] at h
      omega
theorem cntN_pos : ∀ n, (∃ i, i < n ∧ f i = true) → 1 ≤ cntN f n
  | 0, ⟨i, h, _⟩ => absurd h (Nat.not_lt_zero i)
  | n + 1, ⟨i, h1, h2⟩ => by
    unfold cntN
    by_cases e : i = n
    · subst e; rw [if_pos h2]; omega
    · have ih := cntN_pos n ⟨i, by omega, h2⟩
      omega
theorem RCH_s : RCH E P s (k + 1) b = (RCH E P s k b || anN (fun a => RCH E P s k a && E a b) P) := rfl
theorem RCH_mono (h : RCH E P s k b = true) : ∀ j, k ≤ j → RCH E P s j b = true := by
  intro j hj
  induction j with
  | zero => rw [show k = 0 by omega] at h; exact h
  | succ j ih =>
    by_cases e : k = j + 1
    · rw [← e]; exact h
    · rw [RCH_s, ih (by omega)]; rfl
theorem RCH_st (h : ∀ b, b < P → RCH E P s (k + 1) b = RCH E P s k b) : ∀ j, k ≤ j → ∀ b, b < P → RCH E P s j b = RCH E P s k b := by
  intro j
  induction j with
  | zero => intro hj b hb; rw [show k = 0 by omega]
  | succ j ih =>
    intro hj b hb
    by_cases e : k = j + 1
    · rw [← e]
    · have ih := ih (by omega)
      rw [← h b hb, RCH_s, RCH_s, ih b hb]
      congr 1
      exact anN_cg P (fun a ha => by rw [ih a ha])
theorem RCH_gr (hs : s < P) : ∀ k, k + 1 ≤ cntN (RCH E P s k) P ∨ ∃ i, i < k ∧ ∀ b, b < P → RCH E P s (i + 1) b = RCH E P s i b := by
  intro k
  induction k with
  | zero => exact Or.inl (cntN_pos P ⟨s, hs, decide_eq_true rfl⟩)
  | succ k ih =>
    rcases ih with ih | ⟨i, h1, h2⟩
    · by_cases c : ∀ b, b < P → RCH E P s (k + 1) b = RCH E P s k b
      · exact Or.inr ⟨k, by omega, c⟩
      · left
        have ex : ∃ b, b < P ∧ RCH E P s (k + 1) b ≠ RCH E P s k b := by
          refine Classical.byContradiction (fun hn => c (fun b hb => Classical.byContradiction (fun h => hn ⟨b, hb, h⟩)))
        obtain ⟨b, hb, hne⟩ := ex
        have l := cntN_lt (f := RCH E P s k) (g := RCH E P s (k + 1)) P (fun i _ h => RCH_mono h (k + 1) (by omega)) ⟨b, hb, by
          cases h1 : RCH E P s k b with
          | true => exact absurd ((RCH_mono h1 (k + 1) (by omega)).trans h1.symm) hne
          | false =>
            cases h2 : RCH E P s (k + 1) b with
            | true => exact ⟨rfl, rfl⟩
            | false => exact absurd (h2.trans h1.symm) hne⟩
        omega
    · exact Or.inr ⟨i, by omega, h2⟩
/-- one step fewer than there are people is enough -/
theorem RCH_fin (hs : s < P) (hk : P ≤ k + 1) (hb : b < P) (h : RCH E P s j b = true) : RCH E P s k b = true := by
  rcases RCH_gr (E := E) hs k with c | ⟨i, h1, h2⟩
  · exact cntN_all P (by omega) b hb
  · by_cases e : j ≤ k
    · exact RCH_mono h k e
    · rw [RCH_st h2 k (by omega) b hb, ← RCH_st h2 j (by omega) b hb]; exact h
theorem RCH_P (hs : s < P) (hE : ∀ a b, E a b = true → b < P) : ∀ k, RCH E P s k b = true → b < P := by
  intro k
  induction k with
  | zero => intro h; rw [of_decide_eq_true h]; exact hs
  | succ k ih =>
    intro h
    rw [RCH_s, Bool.or_eq_true] at h
    rcases h with h | h
    · exact ih h
    · obtain ⟨a, _, h2⟩ := (anN_t P).mp h
      rw [Bool.and_eq_true] at h2
      exact hE a b h2.2
/-- a closed set that holds the start and no more than what is reached -/
theorem RCH_cl (hs : s < P) (hE : ∀ a b, E a b = true → b < P) (h1 : c s = true) (h2 : ∀ b, b < 9 → c b = true → ∃ k, RCH E P s k b = true) (h3 : ∀ a b, a < P → b < P → c a = true → E a b = true → c b = true) (hk : P ≤ k + 1) (hb : b < 9) : c b = RCH E P s k b := by
  have up : ∀ k b, RCH E P s k b = true → c b = true := by
    intro k
    induction k with
    | zero => intro b h; rw [of_decide_eq_true h]; exact h1
    | succ k ih =>
      intro b h
      rw [RCH_s, Bool.or_eq_true] at h
      rcases h with h | h
      · exact ih b h
      · obtain ⟨a, ha, h⟩ := (anN_t P).mp h
        rw [Bool.and_eq_true] at h
        exact h3 a b ha (hE a b h.2) (ih a h.1) h.2
  cases h : RCH E P s k b with
  | true => exact up k b h
  | false =>
    cases hc : c b with
    | false => rfl
    | true =>
      obtain ⟨j, hj⟩ := h2 b hb hc
      rw [RCH_fin hs hk (RCH_P hs hE j hj) hj] at h
      exact h
theorem MSK_in (h1 : MSK x B c) (h2 : MSK x B d) (hB : B ≤ 32) (hb : b < B) : c b = d b := by
  have q := (h1 b (by omega)).symm.trans (h2 b (by omega))
  rw [decide_eq_true hb, Bool.true_and, Bool.true_and] at q
  exact q
end HXR
