/-! ===== the reference's row line ===== -/
section FV
variable {X : pm_X} {k : Nat} {w0 w w' : pm_W} {r : Option Value} {p p1 p2 p3 f0 p0 f : Int32} {bs : Nat → Int32} {n i v j : Nat}
/-- as RS, the fault aside -/
def R0 (w : pm_W) (bs : Nat → Int32) (n i : Nat) : Prop := SK w ∧ gI w 147 8 = 0 ∧ RTk w bs n i ∧ rb w = bs ∧ rn w = n ∧ RB w ∧ i ≤ n
theorem RS_R0 (h : RS w bs n i f p) : R0 w bs n i := by
  obtain ⟨s1, s2, s3, s4, s5, s6, _, _, _, s10⟩ := h
  exact ⟨s1, s2, s3, s4, s5, s6, s10⟩
theorem R0_RS (h : R0 w bs n i) (hf : qF w = f) (hp : qP w = p) (hlt : f ≠ 0 → p.toInt < tkS bs n i ∨ (p = pl bs n i ∧ f = 2)) : RS w bs n i f p := by
  obtain ⟨s1, s2, s3, s4, s5, s6, s10⟩ := h
  exact ⟨s1, s2, s3, s4, s5, s6, hf, hp, hlt, s10⟩
theorem R0_next (h : R0 w bs n i) (hk : tkK bs n i ≠ 0) (q : PS X k 201 0 [.ref 147, pm_dead, pm_dead] [] w r w') : r = none ∧ FM [(147, 3), (147, 4), (147, 5), (147, 6), (147, 7)] [] w w' ∧ R0 w' bs n (tkN bs n i) := by
  obtain ⟨hS, h8, hT, hb, hn, hR, hi⟩ := h
  obtain ⟨z1, z2, z3⟩ := RTk_next hS hR hb hn hT q
  exact ⟨z1, z2, z2.2.2.2, by rw [FM_i z2 (by decide)]; exact h8, z3, (rb_FM z2 (by decide)).trans hb, (rn_FM z2 (by decide)).trans hn, RB_FM hR z2 (by decide) (by decide), (tkN_b hk).2.2⟩
theorem R0_pl (h : R0 w bs n i) : gI w 147 4 = pl bs n i := by
  obtain ⟨_, _, hT, _, hn, hR, hi⟩ := h
  refine i32_of hT.2.1 ?_
  have := (tkN_n (bs := bs) (n := n) (i := i) hi).1
  unfold rn at hn
  have := hR.2.1
  omega
theorem F209_0 (h : R0 w bs n i) (q : PS X k 209 0 [.ref 147] [] w r w') : r = none ∧ FM [(147, 8)] [148] w w' ∧ AF w w' ∧ BK w' bs n i := by
  obtain ⟨z1, z2, z3, z4, _⟩ := F209 h.1 q
  obtain ⟨z5, z6, z7⟩ := z4 h.2.1
  refine ⟨z1, z2, z3, z2.2.2.2, ?_, z6, ?_⟩
  · rw [z5]; decide +kernel
  · rw [z7]; exact R0_pl h
theorem F208_0 (h : R0 w bs n i) (q : PS X k 208 0 [.ref 147, .int p1, .int p2, pm_dead] [] w r w') : (tkK bs n i = 1 ∧ wdC bs (tkS bs n i) (tkN bs n i) ≠ 99 ∧ p1.toInt ≤ (wdC bs (tkS bs n i) (tkN bs n i)).toInt ∧ (wdC bs (tkS bs n i) (tkN bs n i)).toInt ≤ p2.toInt ∧ FM [(147, 3), (147, 4), (147, 5), (147, 6), (147, 7)] [] w w' ∧ R0 w' bs n (tkN bs n i) ∧ r = some (.int (wdC bs (tkS bs n i) (tkN bs n i)))) ∨ (¬ (tkK bs n i = 1 ∧ wdC bs (tkS bs n i) (tkN bs n i) ≠ 99 ∧ p1.toInt ≤ (wdC bs (tkS bs n i) (tkN bs n i)).toInt ∧ (wdC bs (tkS bs n i) (tkN bs n i)).toInt ≤ p2.toInt) ∧ FM [(147, 8)] [148] w w' ∧ AF w w' ∧ BK w' bs n i ∧ r = some (.int 0)) := by
  cases k with
  | zero => exact (PS_0 q).elim
  | succ k =>
    have hh := h
    obtain ⟨hS, h8, hT, hb, hn, hR, hi2⟩ := h
    have q := U208_0 hS q
    rw [if_pos h8] at q
    by_cases c : gI w 147 5 = 3
    · rw [if_pos c] at q
      rw [hT.1, rTk_3] at c
      have ew := hT.2.2.2.2 c.1
      have q := use_p hS q (fun _ _ z => F199 hS z)
      rw [ew] at q
      have ein : isI (wdC bs (tkS bs n i) (tkN bs n i)) p1 p2 = true ↔ (p1.toInt ≤ (wdC bs (tkS bs n i) (tkN bs n i)).toInt ∧ (wdC bs (tkS bs n i) (tkN bs n i)).toInt ≤ p2.toInt) := by
        unfold isI
        rw [Bool.and_eq_true, decide_eq_true_iff, decide_eq_true_iff]
      by_cases ci : b2i (isI (wdC bs (tkS bs n i) (tkN bs n i)) p1 p2) = 0
      · rw [if_pos ci] at q
        rw [b2i_0] at ci
        obtain ⟨r1, w1, q1, q2⟩ := q
        obtain ⟨z1, z2, z3, z4⟩ := F209_0 hh q1
        have q := q2 z1 z2.2.2.2
        rw [q.2]
        refine Or.inr ⟨fun z => ?_, z2, z3, z4, q.1⟩
        rw [ein.mpr ⟨z.2.2.1, z.2.2.2⟩] at ci
        exact Bool.noConfusion ci
      · rw [if_neg ci] at q
        rw [b2i_0, Bool.not_eq_false, ein] at ci
        obtain ⟨r3, w3, q3, q4⟩ := q
        obtain ⟨z1, z2, z3⟩ := R0_next hh (by rw [c.1]; decide) q3
        have q := q4 z1 z2.2.2.2
        rw [q.2]
        exact Or.inl ⟨c.1, c.2, ci.1, ci.2, z2, z3, q.1⟩
    · rw [if_neg c] at q
      rw [hT.1, rTk_3] at c
      obtain ⟨r1, w1, q1, q2⟩ := q
      obtain ⟨z1, z2, z3, z4⟩ := F209_0 hh q1
      have q := q2 z1 z2.2.2.2
      rw [q.2]
      exact Or.inr ⟨fun z => c ⟨z.1, z.2.1⟩, z2, z3, z4, q.1⟩
/-- eight[], by cell -/
def ecl (w : pm_W) (q : Nat) : Int32 := (gA w 151).getD q 0
theorem RJ_wr {w1 : pm_W} (h : RJ w bs n i v f0 p0 j) (fm : FM [] [150, 151] w w1) : RJ w1 bs n i v f0 p0 j := RS_wr h fm
/-- eight times none -/
theorem L33 {x y : Int32} : ∀ (k : Nat) (w : pm_W) (t : Nat) (u : Int32), SK w → (gA w 151).length = 8 → u.toInt = t → t ≤ 8 → PS X k 215 33 [.ref 147, .int x, .int y, .int u] [] w r w' → ∃ (k' : Nat) (w1 : pm_W) (u' : Int32), FM [] [151] w w1 ∧ (gA w1 151).length = 8 ∧ (∀ q, q < 8 → ecl w1 q = if t ≤ q then -1 else ecl w q) ∧ (if y = 11 then PS X k' 215 64 [.ref 147, .int x, .int y, .int u'] [] w1 r w' else (if y = 12 then PS X k' 215 64 [.ref 147, .int x, .int y, .int u'] [] w1 r w' else PS X k' 215 104 [.ref 147, .int x, .int y, .int u'] [] w1 r w')) := by
  intro k
  induction k with
  | zero => intro w t u hS hl hu ht h; exact (PS_0 h).elim
  | succ k ih =>
    intro w t u hS hl hu ht h
    have h := U215_33 hS h
    by_cases c : 8 ≤ u
    · rw [if_pos c] at h
      rw [Int32.le_iff_toInt_le, eight32, hu] at c
      exact ⟨k, w, u, FM_refl hS, hl, fun q hq => by rw [if_neg (by omega)], h⟩
    · rw [if_neg c] at h
      rw [Int32.le_iff_toInt_le, eight32, hu] at c
      obtain ⟨hI, h⟩ := h
      have h := h _ rfl
      have g1 : gA (aS w 151 u (-1)) 151 = (gA w 151).set t (-1) := by rw [gA_aS (aI_isA hI), i_nat hu]
      obtain ⟨k', w1, u', a1, a2, a3, a4⟩ := ih _ (t + 1) (u + 1) (SK_aS hS) (by rw [g1, List.length_set]; exact hl) (by rw [zi_inc (n := 8) (by omega) (by omega), hu]; rfl) (by omega) h
      refine ⟨k', w1, u', FM_trans (FM_aS hS (by decide)) a1, a2, fun q hq => ?_, a4⟩
      rw [a3 q hq]
      unfold ecl
      rw [g1, getD_set (by omega)]
      by_cases c1 : q = t
      · rw [if_neg (by omega), if_pos c1, if_pos (by omega)]
      · by_cases c2 : t ≤ q
        · rw [if_pos (by omega), if_pos c2]
        · rw [if_neg (by omega), if_neg c1, if_neg c2]
end FV
