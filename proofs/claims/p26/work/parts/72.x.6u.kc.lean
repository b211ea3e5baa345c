/-! ===== state: debts parted into rings; what both sides do, what it leaves ===== -/
section KCA
variable {a i v j m m' u P t t' s s' b d q q2 p p' f f' N K : Nat} {y : Int} {x z l l' : Int32} {D D' D1 D2 T : Nat → Int32} {e e' : Nat → Nat} {R : (Nat → Int32) → (Nat → Int32) → Prop}
theorem su_z {f : Nat → Int} : ∀ n, (∀ i, i < n → 0 ≤ f i) → suI f n ≤ 0 → ∀ i, i < n → f i = 0
  | 0, _, _, i, hi => absurd hi (Nat.not_lt_zero i)
  | n + 1, h0, hs, i, hi => by
    have a := suI_nn (f := f) (n := n) (fun i hi => h0 i (by omega))
    have b := h0 n (by omega)
    have hs : suI f n + f n ≤ 0 := hs
    by_cases e : i = n
    · rw [e]; omega
    · exact su_z n (fun i hi => h0 i (by omega)) (by omega) i (by omega)
end KCA
