/-! ===== balances; lawful ===== -/
section HFB
variable {X : pm_X} {k k2 : Nat} {w0 w w1 w2 w' : pm_W} {r r2 : Option Value} {p p1 p2 p3 p4 p5 f0 p0 f q M nn sl : Int32} {n i v j m T L u a c N K P t s b Q x : Nat} {D D' G G1 G2 V E : Nat → Int32}
def blS (D : Nat → Int32) (x : Nat) : Nat → Int32
  | 0 => 0
  | i + 1 => blS D x i + (D (9 * x + i) - D (9 * i + x))
theorem blS_b (hD : ∀ q, 0 ≤ (D q).toInt ∧ (D q).toInt ≤ 99) : ∀ i : Nat, i ≤ 9 → -(99 * (i : Int)) ≤ (blS D x i).toInt ∧ (blS D x i).toInt ≤ 99 * (i : Int) := by
  intro i
  induction i with
  | zero => intro _; exact ⟨by show _ ≤ (0 : Int32).toInt; rw [z32]; omega, by show (0 : Int32).toInt ≤ _; rw [z32]; omega⟩
  | succ i ih =>
    intro hi
    obtain ⟨h1, h2⟩ := ih (by omega)
    have a1 := hD (9 * x + i)
    have a2 := hD (9 * i + x)
    have e : (blS D x (i + 1)).toInt = (blS D x i).toInt + ((D (9 * x + i)).toInt - (D (9 * i + x)).toInt) := zi_add rfl (zi_sub rfl rfl (by omega) (by omega)) (by omega) (by omega)
    rw [e]
    omega
def lwS (P : Nat) (sl : Int32) (D : Nat → Int32) : Prop := ∀ t, t < P → -sl.toInt ≤ (blS D t P).toInt ∧ (blS D t P).toInt ≤ sl.toInt
theorem F94_4 (hS : SK w) (ok : okS a = true) (hP : (gI w (gR w a 0) 0).toInt = P) (hP9 : P ≤ 9) (h1 : p1.toInt = x) (hx : x < 9) : ∀ (k t : Nat) (i2 i3 : Int32), i3.toInt = t → t ≤ P → i2 = blS (dA w a) x t → PS X k 94 4 [.ref a, .int p1, .int i2, .int i3] [] w r w' → r = some (.int (blS (dA w a) x P)) ∧ w' = w := by
  intro k
  induction k with
  | zero => intro t i2 i3 _ _ _ h; exact (PS_0 h).elim
  | succ k ih =>
    intro t i2 i3 h3 ht h2 h
    have h := U94_4 hS h
    by_cases c : gI w (gR w a 0) 0 ≤ i3
    · rw [if_pos c] at h
      rw [Int32.le_iff_toInt_le, hP, h3] at c
      have e : t = P := by omega
      rw [← e]
      exact ⟨by rw [h.1, h2], h.2⟩
    · rw [if_neg c] at h
      rw [Int32.le_iff_toInt_le, hP, h3] at c
      obtain ⟨c1, hc1, h⟩ := use_z hS h (fun _ _ y => F52n hS h1 h3 hx (by omega) y)
      obtain ⟨_, h⟩ := h
      obtain ⟨c2, hc2, h⟩ := use_z hS h (fun _ _ y => F52n hS h3 h1 (by omega) hx y)
      obtain ⟨_, h⟩ := h
      obtain ⟨r3, _⟩ := okS_r hS ok
      rw [r3, aG_n hc1, aG_n hc2, h2] at h
      exact ih (t + 1) _ (i3 + 1) (by rw [zi_inc (n := 10) (by omega) (by omega), h3]; rfl) (by omega) rfl h
theorem F94 (hS : SK w) (ok : okS a = true) (hP : (gI w (gR w a 0) 0).toInt = P) (hP9 : P ≤ 9) (h1 : p1.toInt = x) (hx : x < 9) (h : PS X k 94 0 [.ref a, .int p1, pm_dead, pm_dead] [] w r w') : r = some (.int (blS (dA w a) x P)) ∧ w' = w := by
  cases k with
  | zero => exact (PS_0 h).elim
  | succ k => exact F94_4 hS ok hP hP9 h1 hx k 0 0 0 z32 (Nat.zero_le _) rfl (U94_0 hS h)
theorem abs_le {x : Int32} (h1 : -1000 ≤ x.toInt) (h2 : x.toInt ≤ 1000) : (if 0 ≤ x then x else 0 - x) ≤ sl ↔ -sl.toInt ≤ x.toInt ∧ x.toInt ≤ sl.toInt := by
  by_cases c : 0 ≤ x
  · rw [if_pos c, Int32.le_iff_toInt_le]
    rw [Int32.le_iff_toInt_le, z32] at c
    omega
  · rw [if_neg c, Int32.le_iff_toInt_le, zi_sub z32 rfl (by omega) (by omega)]
    rw [Int32.le_iff_toInt_le, z32] at c
    omega
theorem F93_2 (hS : SK w) (ok : okS a = true) (hP : (gI w (gR w a 0) 0).toInt = P) (hP9 : P ≤ 9) (hD : ∀ q, 0 ≤ (dA w a q).toInt ∧ (dA w a q).toInt ≤ 99) : ∀ (k t : Nat) (i2 : Int32), i2.toInt = t → t ≤ P → (∀ j, j < t → -p1.toInt ≤ (blS (dA w a) j P).toInt ∧ (blS (dA w a) j P).toInt ≤ p1.toInt) → PS X k 93 2 [.ref a, .int p1, .int i2] [] w r w' → w' = w ∧ ((lwS P p1 (dA w a) ∧ r = some (.int 1)) ∨ (¬ lwS P p1 (dA w a) ∧ r = some (.int 0))) := by
  intro k
  induction k with
  | zero => intro t i2 _ _ _ h; exact (PS_0 h).elim
  | succ k ih =>
    intro t i2 h3 ht hj h
    have h := U93_2 hS h
    by_cases c : gI w (gR w a 0) 0 ≤ i2
    · rw [if_pos c] at h
      rw [Int32.le_iff_toInt_le, hP, h3] at c
      have e : t = P := by omega
      exact ⟨h.2, Or.inl ⟨fun j hj' => hj j (by omega), h.1⟩⟩
    · rw [if_neg c] at h
      rw [Int32.le_iff_toInt_le, hP, h3] at c
      have h := use_p hS h (fun _ _ y => F94 hS ok hP hP9 h3 (by omega) y)
      have bb := blS_b (x := t) hD P hP9
      by_cases c2 : -p1.toInt ≤ (blS (dA w a) t P).toInt ∧ (blS (dA w a) t P).toInt ≤ p1.toInt
      · rw [if_pos ((abs_le (by omega) (by omega)).mpr c2)] at h
        refine ih (t + 1) (i2 + 1) (by rw [zi_inc (n := 10) (by omega) (by omega), h3]; rfl) (by omega) (fun j hj' => ?_) h
        by_cases e : j = t
        · rw [e]; exact c2
        · exact hj j (by omega)
      · rw [if_neg (fun z => c2 ((abs_le (by omega) (by omega)).mp z))] at h
        exact ⟨h.2, Or.inr ⟨fun z => c2 (z t (by omega)), h.1⟩⟩
theorem F92 (hS : SK w) (ok : okS a = true) (hP : (gI w (gR w a 0) 0).toInt = P) (hP9 : P ≤ 9) (hD : ∀ q, 0 ≤ (dA w a q).toInt ∧ (dA w a q).toInt ≤ 99) (h : PS X k 92 0 [.ref a] [] w r w') : w' = w ∧ ((lwS P (gI w (gR w a 0) 1) (dA w a) ∧ r = some (.int 1)) ∨ (¬ lwS P (gI w (gR w a 0) 1) (dA w a) ∧ r = some (.int 0))) := by
  cases k with
  | zero => exact (PS_0 h).elim
  | succ k =>
    have h := U92_0 hS h
    obtain ⟨q, w2, z, h⟩ := h
    cases k with
    | zero => exact (PS_0 z).elim
    | succ k =>
      obtain ⟨e, zz⟩ := F93_2 hS ok hP hP9 hD k 0 0 z32 (Nat.zero_le _) (fun j hj => by omega) (U93_0 hS z)
      subst w2
      rcases zz with ⟨z1, z2⟩ | ⟨z1, z2⟩
      · obtain ⟨h1, h2⟩ := h _ z2 hS
        exact ⟨h2, Or.inl ⟨z1, h1⟩⟩
      · obtain ⟨h1, h2⟩ := h _ z2 hS
        exact ⟨h2, Or.inr ⟨z1, h1⟩⟩
theorem F242_5 (hS : SK w) (hu : u ≤ 1) (hp : p1.toInt = (610 + 132 * u : Nat)) (hP : (al w (610 + 132 * u)).toInt = P) (hP9 : P ≤ 9) (h1 : p2.toInt = x) (hx : x < 9) : ∀ (k t : Nat) (i3 i4 : Int32), i4.toInt = t → t ≤ P → i3 = blS (dR w) x t → PS X k 242 5 [.ref 147, .int p1, .int p2, .int i3, .int i4] [] w r w' → r = some (.int (blS (dR w) x P)) ∧ w' = w := by
  intro k
  induction k with
  | zero => intro t i3 i4 _ _ _ h; exact (PS_0 h).elim
  | succ k ih =>
    intro t i3 i4 h4 ht h3 h
    obtain ⟨_, h⟩ := U242_5 hS h
    rw [aG_n hp] at h
    by_cases c : al w (610 + 132 * u) ≤ i4
    · have h := (if_pos c).symm ▸ h
      rw [Int32.le_iff_toInt_le, hP, h4] at c
      have e : t = P := by omega
      rw [← e]
      exact ⟨by rw [h.1, h3], h.2⟩
    · have h := (if_neg c).symm ▸ h
      rw [Int32.le_iff_toInt_le, hP, h4] at c
      have h := use_p hS h (fun _ _ y => F232n hS h1 h4 hx (by omega) y)
      have h := use_p hS h (fun _ _ y => F232n hS h4 h1 (by omega) hx y)
      exact ih (t + 1) _ (i4 + 1) (by rw [zi_inc (n := 10) (by omega) (by omega), h4]; rfl) (by omega) (by rw [h3]; rfl) h
theorem F242 (hS : SK w) (hu : u ≤ 1) (hp : p1.toInt = (610 + 132 * u : Nat)) (hP : (al w (610 + 132 * u)).toInt = P) (hP9 : P ≤ 9) (h1 : p2.toInt = x) (hx : x < 9) (h : PS X k 242 0 [.ref 147, .int p1, .int p2, pm_dead, pm_dead] [] w r w') : r = some (.int (blS (dR w) x P)) ∧ w' = w := by
  cases k with
  | zero => exact (PS_0 h).elim
  | succ k => exact F242_5 hS hu hp hP hP9 h1 hx k 0 0 0 z32 (Nat.zero_le _) rfl (U242_0 hS h)
theorem F241_4 (hS : SK w) (hu : u ≤ 1) (hp : p1.toInt = (610 + 132 * u : Nat)) (hP : (al w (610 + 132 * u)).toInt = P) (hP9 : P ≤ 9) (hs : (al w (612 + 132 * u)) = sl) (hsl : 0 ≤ sl.toInt ∧ sl.toInt ≤ 9) (hD : ∀ q, 0 ≤ (dR w q).toInt ∧ (dR w q).toInt ≤ 99) : ∀ (k t : Nat) (i2 i3 : Int32), i3.toInt = t → t ≤ P → ((i2 = 1 ∧ ∀ j, j < t → -sl.toInt ≤ (blS (dR w) j P).toInt ∧ (blS (dR w) j P).toInt ≤ sl.toInt) ∨ (i2 = 0 ∧ ¬ lwS P sl (dR w))) → PS X k 241 4 [.ref 147, .int p1, .int i2, .int i3] [] w r w' → w' = w ∧ ((lwS P sl (dR w) ∧ r = some (.int 1)) ∨ (¬ lwS P sl (dR w) ∧ r = some (.int 0))) := by
  intro k
  induction k with
  | zero => intro t i2 i3 _ _ _ h; exact (PS_0 h).elim
  | succ k ih =>
    intro t i2 i3 h3 ht hi h
    obtain ⟨_, h⟩ := U241_4 hS h
    have ei : (i3 + 1).toInt = (t + 1 : Nat) := by rw [zi_inc (n := 10) (by omega) (by omega), h3]; rfl
    rw [aG_n hp] at h
    by_cases c : al w (610 + 132 * u) ≤ i3
    · have h := (if_pos c).symm ▸ h
      rw [Int32.le_iff_toInt_le, hP, h3] at c
      have e : t = P := by omega
      rcases hi with ⟨z1, z2⟩ | ⟨z1, z2⟩
      · exact ⟨h.2, Or.inl ⟨fun j hj => z2 j (by omega), by rw [h.1, z1]⟩⟩
      · exact ⟨h.2, Or.inr ⟨z2, by rw [h.1, z1]⟩⟩
    · have h := (if_neg c).symm ▸ h
      rw [Int32.le_iff_toInt_le, hP, h3] at c
      rcases hi with ⟨z1, z2⟩ | ⟨z1, z2⟩
      · rw [z1, if_neg (by decide +kernel)] at h
        have h := use_p hS h (fun _ _ y => F242 hS hu hp hP hP9 h3 (by omega) y)
        obtain ⟨_, _, h⟩ := h
        have es : aG w 148 (p1 + 2) = sl := by
          rw [aG_n (m := 612 + 132 * u) (by rw [zi_add hp two32 (by omega) (by omega)]; omega)]
          exact hs
        rw [es] at h
        have h := use_p hS h (fun _ _ y => F199 hS y)
        have bb := blS_b (x := t) hD P hP9
        have en : (-sl).toInt = -sl.toInt := by
          rw [← Int32.zero_sub, zi_sub z32 rfl (by omega) (by omega)]
          omega
        have eb : isI (blS (dR w) t P) (-sl) sl = decide (-sl.toInt ≤ (blS (dR w) t P).toInt ∧ (blS (dR w) t P).toInt ≤ sl.toInt) := by
          unfold isI
          rw [en]
          by_cases y : -sl.toInt ≤ (blS (dR w) t P).toInt ∧ (blS (dR w) t P).toInt ≤ sl.toInt
          · rw [decide_eq_true y, decide_eq_true y.1, decide_eq_true y.2]; rfl
          · rw [decide_eq_false y]
            by_cases y1 : -sl.toInt ≤ (blS (dR w) t P).toInt
            · rw [decide_eq_true y1, decide_eq_false (fun y2 => y ⟨y1, y2⟩)]; rfl
            · rw [decide_eq_false y1]; rfl
        rw [eb] at h
        by_cases y : -sl.toInt ≤ (blS (dR w) t P).toInt ∧ (blS (dR w) t P).toInt ≤ sl.toInt
        · have h := ifb_t y h
          refine ih (t + 1) 1 (i3 + 1) ei (by omega) (Or.inl ⟨rfl, fun j hj => ?_⟩) h
          by_cases e : j = t
          · rw [e]; exact y
          · exact z2 j (by omega)
        · have h := ifb_f y h
          exact ih (t + 1) 0 (i3 + 1) ei (by omega) (Or.inr ⟨rfl, fun z => y (z t (by omega))⟩) h
      · rw [z1, if_pos rfl] at h
        exact ih (t + 1) 0 (i3 + 1) ei (by omega) (Or.inr ⟨rfl, z2⟩) h
theorem F241 (hS : SK w) (hu : u ≤ 1) (hp : p1.toInt = (610 + 132 * u : Nat)) (hP : (al w (610 + 132 * u)).toInt = P) (hP9 : P ≤ 9) (hs : (al w (612 + 132 * u)) = sl) (hsl : 0 ≤ sl.toInt ∧ sl.toInt ≤ 9) (hD : ∀ q, 0 ≤ (dR w q).toInt ∧ (dR w q).toInt ≤ 99) (h : PS X k 241 0 [.ref 147, .int p1, pm_dead, pm_dead] [] w r w') : w' = w ∧ ((lwS P sl (dR w) ∧ r = some (.int 1)) ∨ (¬ lwS P sl (dR w) ∧ r = some (.int 0))) := by
  cases k with
  | zero => exact (PS_0 h).elim
  | succ k => exact F241_4 hS hu hp hP hP9 hs hsl hD k 0 1 0 z32 (Nat.zero_le _) (Or.inl ⟨rfl, fun j hj => by omega⟩) (U241_0 hS h)
end HFB
