/-! ===== most, shilling, worth, asked on both sides ===== -/
section IVM
variable {X : pm_X} {k k2 : Nat} {w0 w w1 w2 w3 w4 w5 w6 wj w' : pm_W} {r r2 q0 q1 q2 : Option Value} {p1 p2 p3 p4 p5 i0 i1 i2 i3 i4 i5 i6 i7 i8 z z1 z2 x y : Int32} {i v j m u P t s b Q I J K T p W M N κ : Nat} {R R' C ask c : Nat → Nat → Int} {e g d sl : Int} {A B : Nat → Nat} {n o : Nat → Int} {S : Nat → Bool} {a : Nat → Int32} {wv : Nat → Int32} {s1 t1 t2 : SN}
/-- the class's wishes: the village, the rooms, the sets' worth -/
def LKw (w : pm_W) (P W : Nat) (A B : Nat → Nat) (n : Nat → Int) (wv : Nat → Int32) : Prop := WSH w P W A B n ∧ (∀ i j, i < P → j < P → 0 ≤ rmW w i j ∧ rmW w i j ≤ 1000) ∧ (gI w 68 7).toInt = ((2 ^ W : Nat) : Int) ∧ (∀ s, s < 2 ^ W → vaW w s = vlS wv W s) ∧ ∀ κ, κ < W → 0 ≤ (wv κ).toInt ∧ (wv κ).toInt ≤ 99
theorem LKw_fm (h : LKw w P W A B n wv) (f : FM [] [75, 76, 80, 81, 82] w w') : LKw w' P W A B n wv := by
  obtain ⟨h1, h2, h3, h4, h5⟩ := h
  refine ⟨WSH_fm h1 f (by intro p hp; cases hp) (by decide), fun i j hi hj => ?_, by rw [FM_i f (by simp)]; exact h3, fun s hs => ?_, h5⟩
  · rw [show rmW w' = rmW w from by funext i j; unfold rmW; rw [FM_a f (by decide)]]
    exact h2 i j hi hj
  · rw [← h4 s hs]
    unfold vaW
    rw [FM_a f (by decide)]
theorem LKC (h3 : RL3 w) (f1 : FM [(33, 0), (33, 1), (33, 2)] [39, 40, 41] w w3) (a2 : LDR (al w) p1 p2 p3 a u s1) (a3 : CSt w3 33 (5 + 5 * u) (Pof (al w) u) s1.1 s1.2.1 s1.2.2.1 s1.2.2.2) (y : PS X k2 159 0 [.ref 68, .ref 33, pm_dead, pm_dead] [] w3 r w5) : LKw w5 (Pof (al w) u) (Wof (al w) u) (wAf (al w) u) (wBf (al w) u) (wNf (al w) u) (fun κ => wtP (al w) u κ 3) := by
  have hu := a2.2.1
  obtain ⟨x1, x2, x3⟩ := VA_w h3.2 hu
  have bd : ∀ q, 0 ≤ (s1.1 q).toInt ∧ (s1.1 q).toInt ≤ 99 := (LDR_2 h3.2 a2 a2).2.2.2.2.2.1.1.1
  obtain ⟨_, c2, c3, c4, c5, c6, c7, c8⟩ := LOOK3 h3 f1 hu a3 bd y
  refine ⟨LOOK_V h3 f1 hu c2 c3 c4, fun i j hi hj => by rw [c7 i j hi hj]; have := c8 i j hi hj; omega, c5, c6, fun κ hκ => ?_⟩
  have q := x3 κ hκ
  exact ⟨q.2.2.2.2.2.2.2.1, q.2.2.2.2.2.2.2.2⟩
theorem bst_lt (hW : W ≤ 7) {can : Nat → Prop} {bt : Nat → Nat → Prop} : bstF can bt (2 ^ W - 1) < 128 := by
  have hb := bstF_le (can := can) (bt := bt) (2 ^ W - 1)
  have p128 : 2 ^ W ≤ 128 := Nat.le_trans (Nat.pow_le_pow_right (by decide) hW) (by decide)
  have p1' : 1 ≤ 2 ^ W := Nat.one_le_two_pow
  omega
/-- the reference: the best set, then its worth -/
theorem F287v {C : Int32 → pm_W → Prop} (hS : SK w) (hV : WSR w u P W A B n) (hp : p1.toInt = (610 + 132 * u : Nat)) (hwb : ∀ κ, κ < W → 0 ≤ (wtP (al w) u κ 3).toInt ∧ (wtP (al w) u κ 3).toInt ≤ 99) (h2 : p2.toInt = sl) (hsl : 0 ≤ sl ∧ sl ≤ 99) (h : ∃ (r7 : Option Value) (w8 : pm_W), PS X k 287 0 [.ref 147, .int p1, .int p2, .int p3, pm_dead, pm_dead, pm_dead] [] w r7 w8 ∧ (∀ x9 : Int32, r7 = some (.int x9) → SK w8 → (∃ (r10 : Option Value) (w11 : pm_W), PS X k 288 0 [.ref 147, .int p1, .int x9, pm_dead, pm_dead] [] w8 r10 w11 ∧ (∀ x12 : Int32, r10 = some (.int x12) → SK w11 → C x12 w11)))) : ∃ (x : Int32) (w8 : pm_W), FM [] [160, 161, 162, 163, 164] w w8 ∧ x.toInt = vlS (fun κ => wtP (al w) u κ 3) W (bstF (fun s => CANH (rmX (rmA w u) p3.toInt (gI w 147 31).toInt (gI w 147 32).toInt) P W A B n s sl) (bet (fun κ => wtP (al w) u κ 3) W) (2 ^ W - 1)) ∧ C x w8 := by
  obtain ⟨q1, w8, y, h⟩ := h
  obtain ⟨f8, z, a1, a2⟩ := F287 hS hV hp hwb h2 hsl y
  have S8 := f8.2.2.2
  have h := h _ a1 S8
  have e8 : al w8 = al w := al_FM f8 (by decide)
  obtain ⟨x, hx, h⟩ := use_z S8 h (fun _ _ y => F288 S8 (WSR_fm hV f8 (by decide) (by decide)) hp (by rw [e8]; exact hwb) a2 (bst_lt hV.2.2.2.2.1) y)
  rw [e8] at hx
  exact ⟨x, w8, f8, hx, h⟩
end IVM
