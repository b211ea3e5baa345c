/-! ===== steps from one to others in a graph of at most nine ===== -/
section HXR
variable {E : Nat → Nat → Bool} {P s k j b a n i : Nat} {f g c d : Nat → Bool} {x y : Int32} {B : Nat}
def cntN (f : Nat → Bool) : Nat → Nat
  | 0 => 0
  | n + 1 => cntN f n + if f n = true then 1 else 0
theorem cntN_le : ∀ n, cntN f n ≤ n
  | 0 => Nat.le_refl 0
  | n + 1 => by
    have ih := cntN_le n
    unfold cntN
    split <;> omega
end HXR
