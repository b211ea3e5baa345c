/-! ===== sums, cuts ===== -/
section ICS
variable {f g : Nat → Int} {n m i j s t : Nat} {h c r : Nat → Nat → Int} {S S1 S2 : Nat → Bool} {o v : Nat → Int} {x y : Int}
def suI (f : Nat → Int) : Nat → Int
  | 0 => 0
  | n + 1 => suI f n + f n
theorem suI_cg : ∀ n, (∀ i, i < n → f i = g i) → suI f n = suI g n
  | 0, _ => rfl
  | n + 1, h => by unfold suI; rw [suI_cg n (fun i hi => h i (by omega)), h n (by omega)]
theorem suI_add : ∀ n, suI (fun i => f i + g i) n = suI f n + suI g n
  | 0 => rfl
  | n + 1 => by unfold suI; rw [suI_add n]; omega
theorem suI_sub : ∀ n, suI (fun i => f i - g i) n = suI f n - suI g n
  | 0 => rfl
  | n + 1 => by unfold suI; rw [suI_sub n]; omega
theorem suI_neg : ∀ n, suI (fun i => -f i) n = -suI f n
  | 0 => rfl
  | n + 1 => by unfold suI; rw [suI_neg n]; omega
theorem suI_le : ∀ n, (∀ i, i < n → f i ≤ g i) → suI f n ≤ suI g n
  | 0, _ => Int.le_refl _
  | n + 1, h => by
    have a := suI_le n (fun i hi => h i (by omega))
    have b := h n (by omega)
    unfold suI
    omega
theorem suI_z : ∀ n, (∀ i, i < n → f i = 0) → suI f n = 0
  | 0, _ => rfl
  | n + 1, h => by unfold suI; rw [suI_z n (fun i hi => h i (by omega)), h n (by omega)]; rfl
theorem suI_nn (h : ∀ i, i < n → 0 ≤ f i) : 0 ≤ suI f n := by
  have a := suI_le (f := fun _ => 0) (g := f) n h
  rw [suI_z (f := fun _ => 0) n (fun _ _ => rfl)] at a
  exact a
theorem suI_ext (hm : m ≤ n) (h : ∀ i, m ≤ i → i < n → f i = 0) : suI f n = suI f m := by
  induction n with
  | zero => rw [show m = 0 by omega]
  | succ n ih =>
    by_cases e : m = n + 1
    · rw [e]
    · show suI f n + f n = suI f m
      rw [ih (by omega) (fun i h1 h2 => h i h1 (by omega)), h n (by omega) (by omega)]
      omega
theorem suI_one : ∀ n, j < n → suI (fun i => if i = j then x else 0) n = x
  | 0, h => absurd h (Nat.not_lt_zero j)
  | n + 1, h => by
    unfold suI
    by_cases e : j = n
    · subst e
      rw [suI_z j (fun i hi => if_neg (by omega)), if_pos rfl]
      omega
    · rw [suI_one n (by omega), if_neg (by omega)]
      omega
theorem suI_swap : ∀ m n, suI (fun a => suI (fun b => h a b) n) m = suI (fun b => suI (fun a => h a b) m) n
  | 0, n => (suI_z n (fun _ _ => rfl)).symm
  | m + 1, n => by
    show suI (fun a => suI (fun b => h a b) n) m + suI (fun b => h m b) n = suI (fun b => suI (fun a => h a b) m + h m b) n
    rw [suI_swap m n, suI_add n]
def bz (b : Bool) (x : Int) : Int := if b = true then x else 0
theorem bz_t : bz true x = x := rfl
theorem bz_f : bz false x = 0 := rfl
theorem bz_s {b : Bool} : ∀ n, bz b (suI f n) = suI (fun i => bz b (f i)) n := by
  intro n
  cases b with
  | true => exact suI_cg n (fun _ _ => rfl)
  | false => exact (suI_z n (fun _ _ => rfl)).symm
theorem bz_le {b : Bool} (h : x ≤ y) : bz b x ≤ bz b y := by
  cases b
  · exact Int.le_refl _
  · exact h
/-- what is from S to the others -/
def cutC (c : Nat → Nat → Int) (S : Nat → Bool) (n : Nat) : Int := suI (fun a => bz (S a) (suI (fun b => bz (!S b) (c a b)) n)) n
/-- what goes out of S, without the part within S, is nothing less -/
theorem net_S (ha : ∀ a b, a < n → b < n → h a b = -h b a) : suI (fun a => bz (S a) (suI (fun b => h a b) n)) n = cutC h S n := by
  have z : suI (fun a => suI (fun b => bz (S a) (bz (S b) (h a b))) n) n = 0 := by
    have sw := suI_swap (h := fun a b => bz (S a) (bz (S b) (h a b))) n n
    have ng : suI (fun b => suI (fun a => bz (S a) (bz (S b) (h a b))) n) n = -suI (fun a => suI (fun b => bz (S a) (bz (S b) (h a b))) n) n := by
      rw [← suI_neg n]
      refine suI_cg n (fun b hb => ?_)
      rw [← suI_neg n]
      refine suI_cg n (fun a hx => ?_)
      rw [ha a b hx hb]
      cases S a <;> cases S b <;> simp [bz]
    omega
  have e : suI (fun a => bz (S a) (suI (fun b => h a b) n)) n = suI (fun a => suI (fun b => bz (S a) (bz (S b) (h a b))) n) n + cutC h S n := by
    unfold cutC
    rw [← suI_add n]
    refine suI_cg n (fun a _ => ?_)
    rw [bz_s, bz_s, ← suI_add n]
    refine suI_cg n (fun b _ => ?_)
    cases S a <;> cases S b <;> simp [bz]
  rw [e, z, Int.zero_add]
theorem cut_le (hr : ∀ a b, a < n → b < n → a ≠ b → h a b ≤ c a b) : cutC h S n ≤ cutC c S n := by
  unfold cutC
  refine suI_le n (fun a ha => ?_)
  cases hs : S a with
  | false => exact Int.le_refl _
  | true =>
    rw [bz_t, bz_t]
    refine suI_le n (fun b hb => ?_)
    by_cases e : a = b
    · rw [← e, hs]
      exact Int.le_refl _
    · exact bz_le (hr a b ha hb e)
theorem cut_eq (hr : ∀ a b, a < n → b < n → S a = true → S b = false → h a b = c a b) : cutC h S n = cutC c S n := by
  unfold cutC
  refine suI_cg n (fun a ha => ?_)
  cases hs : S a with
  | false => rfl
  | true =>
    rw [bz_t, bz_t]
    refine suI_cg n (fun b hb => ?_)
    cases hb2 : S b with
    | true => rfl
    | false => exact hr a b ha hb hs hb2
end ICS
