/-! ===== the class: what goes through from one to another ===== -/
section IHF
variable {X : pm_X} {k k2 : Nat} {w0 w w1 w2 w3 w4 w' : pm_W} {r r2 q0 q1 q2 : Option Value} {p1 p2 p3 p4 i1 i2 i3 i4 i5 i6 z z1 z2 x y : Int32} {i v j m u P t s b Q B I J K n a T p : Nat} {c : Nat → Nat → Int} {d : Int}
def rmW (w : pm_W) (a b : Nat) : Int := ((gA w 74).getD (9 * a + b) 0).toInt
theorem F162 (hS : SK w) (h : PS X k 162 0 [.ref 79] [] w r w') : r = none ∧ FM [] [80] w w' ∧ ∀ a b, a < 12 → b < 12 → frC w' a b = 0 := by
  cases k with
  | zero => exact (PS_0 h).elim
  | succ k =>
    obtain ⟨q1, w2, y, h⟩ := U162_0 hS h
    rw [(R79 hS).1] at y
    obtain ⟨e1, f1, l1⟩ := F20_n (N := 144) hS (by decide +kernel) (l80 hS) (by decide) y
    have h := h e1 f1.2.2.2
    rw [h.2]
    refine ⟨h.1, f1, fun a b ha hb => ?_⟩
    unfold frC
    rw [l1 _ (by omega), z32]
theorem FALw (hS : SK w) (h1 : p1.toInt = a) (h2 : p2.toInt = b) (ha : a < 12) (hb : b < 12) (h : PS X k 163 0 [.ref 79, .int p1, .int p2, .int p3] [] w r w') : r = none ∧ FM [] [80] w w' ∧ ∀ i j, i < 12 → j < 12 → frC w' i j = if i = a ∧ j = b then p3.toInt else frC w i j := by
  have e12 : (12 : Int32).toInt = 12 := by decide +kernel
  cases k with
  | zero => exact (PS_0 h).elim
  | succ k =>
    obtain ⟨_, h⟩ := U163_0 hS h
    obtain ⟨a1, a2⟩ := h _ rfl
    rw [(R79 hS).1] at a2
    rw [a2]
    exact ⟨a1, FM_aS hS (by decide), fun i j hi hj => frC_s hS ha hb (by rw [zi_add (zi_mul h1 e12 (by omega) (by omega)) h2 (by omega) (by omega)]; omega) i j hi hj⟩
end IHF
