/-! ===== had, most, shilling, asked on both sides ===== -/
section IUH
variable {X : pm_X} {k k2 : Nat} {w0 w w1 w2 w3 w4 w5 w6 wj w' : pm_W} {r r2 q0 q1 q2 : Option Value} {p1 p2 p3 p4 p5 i0 i1 i2 i3 i4 i5 i6 i7 i8 z z1 z2 x y : Int32} {i v j m u P t s b Q I J K T p W M N κ : Nat} {R R' C ask c : Nat → Nat → Int} {e g d sl : Int} {A B : Nat → Nat} {n o : Nat → Int} {S : Nat → Bool} {a : Nat → Int32} {wv : Nat → Int32} {s1 t1 t2 : SN}
theorem shr_0 (hx : x.toInt = m) (hy : y.toInt = W) (hW : W ≤ 7) : (x >>> (y &&& 31)) = 0 ↔ m < 2 ^ W := by
  have ey := i32_of hy (by omega)
  have t : (List.range 32).all (fun b => ((Int32.ofNat b &&& 31).toBitVec.smod 32).toNat == b) = true := by decide +kernel
  have t1 := eq_of_beq (List.all_eq_true.mp t W (List.mem_range.mpr (by omega)))
  have e : (x >>> (y &&& 31)).toInt = ((m / 2 ^ W : Nat) : Int) := by
    show (x >>> (y &&& 31)).toBitVec.toInt = _
    rw [ey, Int32.toBitVec_shiftRight, BitVec.sshiftRight_eq', t1, BitVec.toInt_sshiftRight]
    show x.toInt >>> W = _
    rw [hx, Int.shiftRight_eq_div_pow]
    rfl
  constructor
  · intro h
    rw [h, z32] at e
    have e : m / 2 ^ W = 0 := by omega
    exact (Nat.div_eq_zero_iff_lt (Nat.two_pow_pos W)).mp e
  · intro h
    refine Int32.toInt_inj.mp ?_
    rw [e, Nat.div_eq_of_lt h, z32]
    rfl
theorem rmX_0 {mt : Int} (i j : Nat) : rmX R (-1) (-1) mt i j = R i j := by
  unfold rmX
  rw [if_neg (by omega), if_neg (by omega)]
  omega
/-- both sides look at the same village, the same rooms -/
def LK5 (w w5 w6 : pm_W) (u : Nat) (s1 : SN) : Prop := WSH w5 (Pof (al w) u) (Wof (al w) u) (wAf (al w) u) (wBf (al w) u) (wNf (al w) u) ∧ WSR w6 u (Pof (al w) u) (Wof (al w) u) (wAf (al w) u) (wBf (al w) u) (wNf (al w) u) ∧ (∀ i j, i < Pof (al w) u → j < Pof (al w) u → 0 ≤ rmW w5 i j ∧ rmW w5 i j ≤ 1000) ∧ (∀ i j, i < Pof (al w) u → j < Pof (al w) u → rmW w5 i j = rmA w6 u i j) ∧ (gI w5 68 7).toInt = ((2 ^ Wof (al w) u : Nat) : Int) ∧ (∀ s, s < 2 ^ Wof (al w) u → vaW w5 s = vlS (fun κ => wtP (al w) u κ 3) (Wof (al w) u) s) ∧ al w6 = al w ∧ gI w6 147 31 = gI w 147 31 ∧ (∀ κ, κ < Wof (al w) u → 0 ≤ (wtP (al w) u κ 3).toInt ∧ (wtP (al w) u κ 3).toInt ≤ 99) ∧ (0 ≤ (al w (612 + 132 * u)).toInt ∧ (al w (612 + 132 * u)).toInt ≤ 9) ∧ Wof (al w) u ≤ 7
/-- the class's load with a look -/
theorem LK5_c (h3 : RL3 w) (zz : PS X k 98 0 [.ref 0, .int p1, .int p2, .int p3, pm_dead, pm_dead, pm_dead] [] w q1 w3) (a1 : q1 = some (.int 1)) (y : PS X k2 159 0 [.ref 68, .ref 33, pm_dead, pm_dead] [] w3 r w5) : r = none ∧ ∃ (u : Nat) (s1 : SN), p1.toInt = u ∧ u < (al w 0).toInt.toNat ∧ u ≤ 1 ∧ CSt w3 33 (5 + 5 * u) (Pof (al w) u) s1.1 s1.2.1 s1.2.2.1 s1.2.2.2 ∧ FM [(33, 0), (33, 1), (33, 2)] [39, 40, 41] w w3 ∧ FM [(68, 0), (68, 7)] [74, 77] w3 w5 ∧ gR w5 33 0 = 5 + 5 * u ∧ (gI w5 (5 + 5 * u) 0).toInt = Pof (al w) u ∧ gI w5 (5 + 5 * u) 1 = al w (612 + 132 * u) ∧ ∀ (w6 : pm_W) (t1 t2 : SN), LD3 w w3 w6 p1 u t1 t2 → al w6 = al w → gI w6 147 31 = gI w 147 31 → LK5 w w5 w6 u s1 := by
  obtain ⟨f1, alt⟩ := F98 h3 zz
  rcases alt with ⟨u, s1, b1, a2, a3⟩ | ⟨b1, _⟩
  · have hu := a2.2.1
    obtain ⟨v1, v1', v3, v2, v4⟩ := VA_v h3.2 hu
    obtain ⟨x1, x2, x3⟩ := VA_w h3.2 hu
    have u1 : u ≤ 1 := by have := h3.1.2.1.1.2.1; omega
    have bd : ∀ q, 0 ≤ (s1.1 q).toInt ∧ (s1.1 q).toInt ≤ 99 := (LDR_2 h3.2 a2 a2).2.2.2.2.2.1.1.1
    obtain ⟨c1, c2, c3, c4, c5, c6, c7, c8⟩ := LOOK3 h3 f1 hu a3 bd y
    obtain ⟨g1, g2, g3, g4⟩ := CVL h3 hu f1 a3
    have gv : (gI w5 (5 + 5 * u) 0).toInt = Pof (al w) u := by rw [← c3]; exact c4
    refine ⟨c1, u, s1, a2.1, hu, u1, a3, f1, c2, by rw [FM_r c2 (by simp)]; exact g3, gv, by rw [FM_i c2 (by simp <;> omega)]; rw [g3] at g2; exact g2, fun w6 t1 t2 hL e6 hmf => ?_⟩
    obtain ⟨d1, d2, d3, d4, d5, d6, d7⟩ := hL
    have ed : dR w6 = s1.1 := by
      have x1 : dA w3 33 = t1.1 := d5.2.2.1
      rw [show dR w6 = t2.1 from d6.1, d4.1, ← x1]
      exact a3.2.2.1
    have era : rmA w6 u = fun i j => (rmI (Vof (al w) u) s1.1 i j).toInt := by
      funext i j
      unfold rmA
      rw [ed, e6]
      rfl
    refine ⟨LOOK_V h3 f1 hu c2 c3 c4, WSR_ld h3.2 hu u1 e6 (by rw [era]; exact c8), fun i j hi hj => by rw [c7 i j hi hj]; have := c8 i j hi hj; omega, fun i j hi hj => by rw [c7 i j hi hj, era], c5, c6, e6, hmf, fun κ hκ => ?_, v4, x2⟩
    have q := x3 κ hκ
    exact ⟨q.2.2.2.2.2.2.2.1, q.2.2.2.2.2.2.2.2⟩
  · rw [a1] at b1; exact absurd b1 i10
theorem can_2 {mt : Int} (h : LK5 w w5 w6 u s1) : ∀ s, CANH (rmW w5) (Pof (al w) u) (Wof (al w) u) (wAf (al w) u) (wBf (al w) u) (wNf (al w) u) s sl ↔ CANH (rmX (rmA w6 u) (-1) (-1) mt) (Pof (al w) u) (Wof (al w) u) (wAf (al w) u) (wBf (al w) u) (wNf (al w) u) s sl := fun s => CANH_cg (fun i j hi hj => by rw [rmX_0]; exact h.2.2.2.1 i j hi hj)
theorem m1i : (-1 : Int32).toInt = -1 := by decide +kernel
end IUH
