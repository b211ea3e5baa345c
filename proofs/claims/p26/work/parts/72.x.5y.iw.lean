/-! ===== shilling, worth, asked on both sides ===== -/
section IWS
variable {X : pm_X} {k k2 : Nat} {w0 w w1 w2 w3 w4 w5 w6 wj w' : pm_W} {r r2 q0 q1 q2 : Option Value} {p1 p2 p3 p4 p5 i0 i1 i2 i3 i4 i5 i6 i7 i8 z z1 z2 x y : Int32} {i v j m u P t s b Q I J K T p W M N κ : Nat} {R R' C ask c : Nat → Nat → Int} {e g d sl : Int} {A B : Nat → Nat} {n o : Nat → Int} {S : Nat → Bool} {a : Nat → Int32} {wv : Nat → Int32} {s1 t1 t2 : SN}
/-- what the reference's areTwo changes -/
theorem F245m (hS : SK w) (hA : RA (al w)) (hV : VAa (al w)) (h : PS X k 245 0 [.ref 147, .int p1, .int p2, .int p3, .int p4, .int p5] [] w r w') : gI w' 147 31 = gI w 147 31 ∧ gI w' 147 32 = gI w 147 32 := by
  cases k with
  | zero => exact (PS_0 h).elim
  | succ k =>
    obtain ⟨q6, w6, y6, h⟩ := U245_0 hS h
    obtain ⟨f2, alt2⟩ := F246 hS hA hV y6
    have S6 : SK w6 := f2.2.2.2
    have e6 : al w6 = al w := by funext q; unfold al; rw [FM_a f2 (by simp)]
    have g1 : gI w6 147 31 = gI w 147 31 := FM_i f2 (by simp)
    have g2 : gI w6 147 32 = gI w 147 32 := FM_i f2 (by simp)
    rcases alt2 with ⟨u, s, b2, b3, b4⟩ | ⟨b2, _⟩
    · have h := h _ b2 S6
      rw [if_neg (by decide +kernel)] at h
      have b4' := b3.1
      have b5 := b3.2.1
      have u1 : u ≤ 1 := by have := hA.2.1; omega
      obtain ⟨v1, _, v3, v2, v4⟩ := VA_v hV b5
      have h := use_p S6 h (fun _ _ y => F217v S6 b4' u1 y)
      have h := use_p S6 h (fun _ _ y => F221n (m := 610 + 132 * u) (L := Pof (al w) u) S6 (plV b4' u1) (by rw [e6]; exact v3) (by omega) y)
      by_cases c : 0 ≤ p4.toInt ∧ p4.toInt < (Pof (al w) u : Nat)
      · have h := ifb_t c h
        have h := use_p S6 h (fun _ _ y => F217v S6 b4' u1 y)
        have h := use_p S6 h (fun _ _ y => F221n (m := 610 + 132 * u) (L := Pof (al w) u) S6 (plV b4' u1) (by rw [e6]; exact v3) (by omega) y)
        by_cases c2 : 0 ≤ p5.toInt ∧ p5.toInt < (Pof (al w) u : Nat)
        · have h := ifb_t c2 h
          rw [h.2]; exact ⟨g1, g2⟩
        · have h := ifb_f c2 h
          rw [h.2]; exact ⟨g1, g2⟩
      · have h := ifb_f c h
        rw [h.2]; exact ⟨g1, g2⟩
    · have h := h _ b2 S6
      rw [if_pos rfl] at h
      rw [h.2]; exact ⟨g1, g2⟩
end IWS
