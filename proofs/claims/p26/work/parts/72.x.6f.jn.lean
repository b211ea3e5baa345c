/-! ===== find, asked on both sides ===== -/
section JNA
variable {X : pm_X} {k k2 : Nat} {w0 w w1 w2 w3 w4 w5 w6 w8 wj w' : pm_W} {r r2 q0 q1 q2 : Option Value} {p1 p2 p3 p4 p5 p6 i1 i2 i3 i4 i5 i6 i7 i8 i9 z z1 z2 so x : Int32} {i v j m c u P t s b d p q fx Q I J K T W N κ bm n : Nat} {l l6 l10 : Int64} {e g y : Int} {fe rk : Nat → Int} {E : Nat → Nat} {u9 u10 u12 : Value} {V : Nat → Nat → Prop} {R : Nat → Nat → Int} {a : Nat → Int32} {s1 t1 t2 : SN}
/-- what both found -/
theorem both (hw : SBw w P so fe rk b d V) (hr : SBr w2 P so fe rk b d V) : ((gI w 55 6).toInt = 0 ∧ (gI w2 147 23).toInt = 0) ∨ ∃ m c : Nat, (2 ≤ m ∧ m ≤ 6) ∧ (gI w 55 6).toInt = m ∧ (gI w2 147 23).toInt = m ∧ (∀ i, i < m → ((gA w 67).getD i 0).toInt = elN b d m c i ∧ elN b d m c i < P) ∧ (∀ i, i < m → ((gA w2 159).getD i 0).toInt = elN b d m c i) ∧ (gI w 55 7).toInt = cstN fe b d m c m ∧ (gL w 55 8).toInt = chN rk b d m c m := by
  rcases hw with ⟨a1, a2⟩ | ⟨m, c, a1, a2, a3, a4, a5, a6⟩
  · rcases hr with ⟨b1, b2⟩ | ⟨m', c', b1, b2, b3, b4⟩
    · exact Or.inl ⟨a1, b1⟩
    · exact absurd b1.1 (a2 m' c')
  · rcases hr with ⟨b1, b2⟩ | ⟨m', c', b1, b2, b3, b4⟩
    · exact absurd a1.1 (b2 m c)
    · obtain ⟨e1, e2⟩ := BSt_uq a1 b1
      rw [← e1, ← e2] at b4
      exact Or.inr ⟨m, c, a2, a3, by rw [b3, e1], a4, fun i hi => (b4 i hi).1, a5, a6⟩
end JNA
