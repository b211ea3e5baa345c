/-! ===== stop, asked on both sides ===== -/
section HOS
variable {X : pm_X} {k k2 : Nat} {w0 w w1 w2 w3 w4 w' : pm_W} {r r2 q1 q2 : Option Value} {p p1 p2 p3 p4 p5 i1 i2 i3 sl : Int32} {n i v j m u u2 P t s b Q x rr len o3 : Nat} {a V G G1 G2 : Nat → Int32} {Es : Nat → Nat → Int32} {s0 s1 s2 t1 t2 : SN}
def VRt (a : Nat → Int32) (p1 p2 : Int32) : Prop := (0 ≤ p1.toInt ∧ p1.toInt < ((a 0).toInt.toNat : Nat)) ∧ (0 ≤ p2.toInt ∧ p2.toInt < ((a 1).toInt.toNat : Nat))
theorem F227 (hS : SK w) (hA : RA (al w)) (h : PS X k 227 0 [.ref 147, .int p1, .int p2] [] w r w') : w' = w ∧ ((VRt (al w) p1 p2 ∧ r = some (.int 1)) ∨ (¬ VRt (al w) p1 p2 ∧ r = some (.int 0))) := by
  obtain ⟨r1, r2, r3, r4, _, _, r7⟩ := hA
  cases k with
  | zero => exact (PS_0 h).elim
  | succ k =>
    have h := U227_0 hS h
    have h := use_p hS h (fun _ _ y => F200n (L := (al w 0).toInt.toNat) hS (m := 0) z32 (by omega) (by omega) y)
    by_cases c : 0 ≤ p1.toInt ∧ p1.toInt < ((al w 0).toInt.toNat : Nat)
    · have h := ifb_t c h
      have h := use_p hS h (fun _ _ y => F200n (L := (al w 1).toInt.toNat) hS (m := 1) o32 (by omega) (by omega) y)
      by_cases c2 : 0 ≤ p2.toInt ∧ p2.toInt < ((al w 1).toInt.toNat : Nat)
      · have h := ifb_t c2 h
        exact ⟨h.2, Or.inl ⟨⟨c, c2⟩, h.1⟩⟩
      · have h := ifb_f c2 h
        exact ⟨h.2, Or.inr ⟨fun y => c2 y.2, h.1⟩⟩
    · have h := ifb_f c h
      exact ⟨h.2, Or.inr ⟨fun y => c y.1, h.1⟩⟩
end HOS
