/-! ===== the reference's text ===== -/
section GL
variable {X : pm_X} {k : Nat} {w0 w w1 w' : pm_W} {r : Option Value} {p p1 p2 p3 f0 p0 f q : Int32} {bs cs : Nat → Int32} {n i v j m : Nat} {b : Bool} {c : Nat → Int32} {g : Int}
/-- all, by cell -/
def al (w : pm_W) (q : Nat) : Int32 := (gA w 148).getD q 0
theorem len148 (hS : SK w) : (gA w 148).length = 6760 := SK_len hS (by decide +kernel) (by decide)
theorem al_aS {x y : Int32} (hS : SK w) (hj : x.toInt = j) (h : j < 6760) (q : Nat) : al (aS w 148 x y) q = if q = j then y else al w q := by
  unfold al
  rw [gA_aS (SK_isA hS (by decide +kernel)), i_nat hj, getD_set (by rw [len148 hS]; exact h)]
theorem al_FM {fs : List (Nat × Nat)} {as : List Nat} (h : FM fs as w w1) (h8 : 148 ∉ as) : al w1 = al w := by
  funext q
  unfold al
  rw [FM_a h h8]
theorem AF_al (h : AF w w1) (q : Nat) (h3 : q ≠ 3) (h4 : q ≠ 4) : al w1 q = al w q := h.2 q h3 h4
/-- from label 160 on: the last fault -/
theorem F198_160 {i1 i2 i3 : Int32} {o : OC} (hS : SK w) (hb : b = decide (i1 = 0)) (hF : qF w = o.2.1) (hP : qP w = o.2.2.1) (hB : o.1 = true → o.2.1 = 1) (hE : o.1 = false → gI w 147 8 = 0 ∧ (gI w 147 4).toInt = n) (hn : n ≤ 600) (hC : o.2.1 = 0 → CR b w o.2.2.2.1 o.2.2.2.2) (q : PS X k 198 160 [.ref 147, .int i1, .int i2, .int i3, pm_dead, pm_dead] [] w r w') : ∃ (w1 : pm_W) (k' : Nat), FM [] [148] w w1 ∧ AF w w1 ∧ qF w1 = fF b o ∧ qP w1 = pF b n o ∧ PS X k' 198 195 [.ref 147, .int i1, .int i2, .int i3, pm_dead, pm_dead] [] w1 r w' := by
  cases k with
  | zero => exact (PS_0 q).elim
  | succ k =>
    obtain ⟨_, q⟩ := U198_160 hS q
    rw [show aG w 148 3 = qF w from aG_n (m := 3) three32] at q
    by_cases z : qF w = 0
    · rw [if_pos z] at q
      have z1 : o.2.1 = 0 := by rw [← hF]; exact z
      by_cases e1 : i1 = 0
      · rw [if_pos e1] at q
        have hbt : b = true := by rw [hb, decide_eq_true e1]
        obtain ⟨c1, c2⟩ := hC z1
        obtain ⟨_, q⟩ := q
        rw [show aG w 150 0 = rcl w 0 from aG_n (m := 0) z32, c1 0] at q
        have c2 := c2 hbt
        have hbf : o.1 = false := by
          cases h1 : o.1 with
          | false => rfl
          | true => have := hB h1; rw [z1] at this; exact absurd this (by decide +kernel)
        obtain ⟨d1, d2⟩ := hE hbf
        by_cases y : gI w 147 9 < o.2.2.2.1 0
        · rw [if_pos y] at q
          rw [Int32.lt_iff_toInt_lt, c2] at y
          obtain ⟨y1, y2⟩ := fF_n (b := b) (n := n) (o := o) (fun x => by have := x.2.2; omega)
          exact ⟨w, k, FM_refl hS, AF_refl, by rw [y1, hF], by rw [y2, hP], q⟩
        · rw [if_neg y] at q
          rw [Int32.lt_iff_toInt_lt, c2] at y
          obtain ⟨y1, y2⟩ := fF_y (b := b) (n := n) (o := o) ⟨hbt, z1, by omega⟩
          obtain ⟨r1, w2, q1, q2⟩ := q
          obtain ⟨a1, a2, a3, _, a5⟩ := F211 hS q1
          obtain ⟨_, a6⟩ := a5 d1
          obtain ⟨a7, a8⟩ := a6 (fun x => x.1 z)
          exact ⟨w2, k, a2, a3, by rw [y1]; exact a7, by rw [y2, a8]; exact i32_of d2 (by omega), q2 a1 a2.2.2.2⟩
      · rw [if_neg e1] at q
        have hbt : b = false := by rw [hb, decide_eq_false e1]
        obtain ⟨y1, y2⟩ := fF_n (b := b) (n := n) (o := o) (fun x => by rw [hbt] at x; exact Bool.noConfusion x.1)
        exact ⟨w, k, FM_refl hS, AF_refl, by rw [y1, hF], by rw [y2, hP], q⟩
    · rw [if_neg z] at q
      obtain ⟨y1, y2⟩ := fF_n (b := b) (n := n) (o := o) (fun x => z (by rw [hF]; exact x.2.1))
      exact ⟨w, k, FM_refl hS, AF_refl, by rw [y1, hF], by rw [y2, hP], q⟩
/-- read[] cleared, the first token -/
theorem L198_89 {i1 i2 : Int32} (hb : b = decide (i1 = 0)) : ∀ (k : Nat) (w : pm_W) (t : Nat) (i3 : Int32), SK w → i3.toInt = t → t ≤ 272 → (∀ q, q < t → rcl w q = 0) → PS X k 198 89 [.ref 147, .int i1, .int i2, .int i3, pm_dead, pm_dead] [] w r w' → ∃ (w1 : pm_W) (k' : Nat) (i3' : Int32) (r5 : Option Value) (w6 : pm_W), FM [] [150] w w1 ∧ (∀ q, rcl w1 q = i0 b q) ∧ PS X k' 201 0 [.ref 147, pm_dead, pm_dead] [] w1 r5 w6 ∧ (r5 = none → SK w6 → PS X k' 198 128 [.ref 147, .int i1, .int i2, .int i3', pm_dead, pm_dead] [] w6 r w') := by
  intro k
  have e272 : (272 : Int32).toInt = 272 := by decide +kernel
  induction k with
  | zero => intro w t i3 hS h3 ht hz q; exact (PS_0 q).elim
  | succ k ih =>
    intro w t i3 hS h3 ht hz q
    have q := U198_89 hS q
    by_cases c1 : 272 ≤ i3
    · rw [if_pos c1] at q
      rw [Int32.le_iff_toInt_le, e272] at c1
      have hz' : ∀ q, rcl w q = 0 := fun q => by
        by_cases y : q < 272
        · exact hz q (by omega)
        · unfold rcl
          rw [List.getD_eq_getElem?_getD, List.getElem?_eq_none (by rw [len150 hS]; omega)]
          rfl
      by_cases e1 : i1 = 0
      · rw [if_pos e1] at q
        obtain ⟨hI, q⟩ := q
        obtain ⟨r5, w6, q1, q2⟩ := q _ rfl
        refine ⟨_, k, i3, r5, w6, FM_aS hS (by decide), fun j => ?_, q1, q2⟩
        have e : rcl (aS w 150 0 4) j = if j = 0 then 4 else rcl w j := by
          unfold rcl
          rw [gA_aS (aI_isA hI), i_nat (n := 0) z32, getD_set (by rw [len150 hS]; decide)]
        rw [e, hz' j, hb, decide_eq_true e1]
        rfl
      · rw [if_neg e1] at q
        obtain ⟨hI, q⟩ := q
        obtain ⟨r5, w6, q1, q2⟩ := q _ rfl
        refine ⟨_, k, i3, r5, w6, FM_aS hS (by decide), fun j => ?_, q1, q2⟩
        have e : rcl (aS w 150 0 0) j = if j = 0 then 0 else rcl w j := by
          unfold rcl
          rw [gA_aS (aI_isA hI), i_nat (n := 0) z32, getD_set (by rw [len150 hS]; decide)]
        rw [e, hz' j, hb, decide_eq_false e1]
        show (if j = 0 then (0 : Int32) else 0) = 0
        split <;> rfl
    · rw [if_neg c1] at q
      rw [Int32.le_iff_toInt_le, e272] at c1
      obtain ⟨hI, q⟩ := q
      have q := q _ rfl
      obtain ⟨w1, k', i3', r5, w6, a1, a2, a3⟩ := ih _ (t + 1) (i3 + 1) (SK_aS hS) (by rw [zi_inc (n := 272) (by omega) (by omega), h3]; rfl) (by omega) (fun j hj => by
        have e : rcl (aS w 150 i3 0) j = if j = t then 0 else rcl w j := by
          unfold rcl
          rw [gA_aS (aI_isA hI), i_nat h3, getD_set (by rw [len150 hS]; omega)]
        rw [e]
        by_cases y : j = t
        · rw [if_pos y]
        · rw [if_neg y]; exact hz j (by omega)) q
      exact ⟨w1, k', i3', r5, w6, FM_trans (FM_aS hS (by decide)) a1, a2, a3⟩
/-- the copy -/
theorem L198_255 {i1 i2 i3 i4 : Int32} {B N κ : Nat} (h3 : i3.toInt = κ) (hB : (i1 = 0 ∧ B = 610 + 132 * κ ∧ N = 132 ∧ κ ≤ 1) ∨ (i1 ≠ 0 ∧ B = 874 + 272 * κ ∧ N = 272 ∧ κ ≤ 2)) (h4 : i4.toInt = N) : ∀ (k : Nat) (w : pm_W) (t : Nat) (i5 : Int32), SK w → i5.toInt = t → t ≤ N → PS X k 198 255 [.ref 147, .int i1, .int i2, .int i3, .int i4, .int i5] [] w r w' → r = some (.int i3) ∧ FM [] [148] w w' ∧ ∀ q, al w' q = if B + t ≤ q ∧ q < B + N then rcl w (q - B) else al w q := by
  intro k
  have e132 : (132 : Int32).toInt = 132 := by decide +kernel
  have e272 : (272 : Int32).toInt = 272 := by decide +kernel
  have e610 : (610 : Int32).toInt = 610 := by decide +kernel
  have e874 : (874 : Int32).toInt = 874 := by decide +kernel
  induction k with
  | zero => intro w t i5 hS h5 ht q; exact (PS_0 q).elim
  | succ k ih =>
    intro w t i5 hS h5 ht q
    have q := U198_255 hS q
    by_cases c1 : i4 ≤ i5
    · rw [if_pos c1] at q
      rw [Int32.le_iff_toInt_le] at c1
      obtain ⟨q1, q2⟩ := q
      subst w'
      exact ⟨q1, FM_refl hS, fun q => by rw [if_neg (by omega)]⟩
    · rw [if_neg c1] at q
      rw [Int32.le_iff_toInt_le] at c1
      obtain ⟨r1, w2, q1, q2⟩ := q
      have hx : ∃ x : Int32, r1 = some (.int x) ∧ w2 = w ∧ x.toInt = B := by
        cases k with
        | zero => exact (PS_0 q1).elim
        | succ k =>
          have q1 := U217_0 hS q1
          rcases hB with ⟨b1, b2, b3, b4⟩ | ⟨b1, b2, b3, b4⟩
          · rw [if_pos b1] at q1
            refine ⟨_, q1.1, q1.2, ?_⟩
            rw [zi_add e610 (zi_mul e132 h3 (by omega) (by omega)) (by omega) (by omega)]
            omega
          · rw [if_neg b1] at q1
            refine ⟨_, q1.1, q1.2, ?_⟩
            rw [zi_add e874 (zi_mul e272 h3 (by omega) (by omega)) (by omega) (by omega)]
            omega
      obtain ⟨x, x1, x2, x3⟩ := hx
      subst w2
      obtain ⟨_, _, q⟩ := q2 x x1 hS
      have q := q _ rfl
      have ei : (x + i5).toInt = (B + t : Nat) := by rw [zi_add x3 h5 (by omega) (by omega)]; rfl
      have hB6 : B + N ≤ 6760 := by omega
      rw [aG_n (m := t) h5] at q
      obtain ⟨a1, a2, a3⟩ := ih _ (t + 1) (i5 + 1) (SK_aS hS) (by rw [zi_inc (n := 272) (by omega) (by omega), h5]; rfl) (by omega) q
      have f1 : FM [] [148] w (aS w 148 (x + i5) ((gA w 150).getD t 0)) := FM_aS hS (by decide)
      refine ⟨a1, FM_trans f1 a2, fun q => ?_⟩
      rw [a3 q, al_aS hS ei (by omega)]
      have er : ∀ j, rcl (aS w 148 (x + i5) ((gA w 150).getD t 0)) j = rcl w j := fun j => by unfold rcl; rw [FM_a f1 (by decide)]
      by_cases y1 : B + (t + 1) ≤ q ∧ q < B + N
      · rw [if_pos y1, if_pos (by omega), er]
      · rw [if_neg y1]
        by_cases y2 : q = B + t
        · rw [if_pos y2, if_pos (by omega), y2, show B + t - B = t by omega]
          rfl
        · rw [if_neg y2, if_neg (by omega)]
end GL
