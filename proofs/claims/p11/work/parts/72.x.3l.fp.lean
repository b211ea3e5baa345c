/-! ===== the reference's lines ===== -/
section FP
variable {X : pm_X} {k : Nat} {w0 w w' : pm_W} {r : Option Value} {p p1 p2 p3 f0 p0 : Int32} {bs : Nat → Int32} {n i v j : Nat}
theorem ntF_any {b b' : Bool} {kd kd' f : Int32} (h : f ≠ 0) : ntF b kd f = ntF b' kd' f := by
  unfold ntF
  rw [decide_eq_false h, Bool.and_false, Bool.and_false]
  rfl
theorem ntP_any {b b' : Bool} {q q' f p : Int32} (h : f ≠ 0) : ntP b q f p = ntP b' q' f p := by
  unfold ntP
  rw [decide_eq_false h, Bool.and_false, Bool.and_false]
  rfl
theorem bool_iff {b c : Bool} (h : b = true ↔ c = true) : b = c := by
  exact Bool.eq_iff_iff.mpr h
/-- the fault behind one number more, below eight -/
theorem fJ_s (hj : j < 8) : fJ bs n i v f0 p0 (j + 1) = (ntF (bJ bs n i v j) 2 (fJ bs n i v f0 p0 j).1, ntP (bJ bs n i v j) (pl bs n (tP bs n i (j + 1))) (fJ bs n i v f0 p0 j).1 (fJ bs n i v f0 p0 j).2) := by
  show (ntF (decide (8 ≤ j)) 3 _, ntP (decide (8 ≤ j)) _ _ _) = _
  rw [decide_eq_false (by omega)]
  rfl
/-- behind j numbers of the verb v -/
def RJ (w : pm_W) (bs : Nat → Int32) (n i v : Nat) (f0 p0 : Int32) (j : Nat) : Prop := RS w bs n (tP bs n i (j + 1)) (fJ bs n i v f0 p0 j).1 (fJ bs n i v f0 p0 j).2
theorem R_num {lo hi : Int32} (hj : j < 8) (hb : (fJ bs n i v f0 p0 j).1 ≠ 0 ∨ (badI v j (nv bs n i j) (nv bs n i) ↔ ¬ (lo.toInt ≤ nv bs n i j ∧ nv bs n i j ≤ hi.toInt))) (h : RJ w bs n i v f0 p0 j) (q : PS X k 210 0 [.ref 147, .int lo, .int hi, pm_dead] [] w r w') : (tkK bs n (tP bs n i (j + 1)) = 2 ∧ FM rl7 [148] w w' ∧ AF w w' ∧ gI w' 147 9 = gI w 147 9 ∧ ∃ x : Int32, r = some (.int x) ∧ RJ w' bs n i v f0 p0 (j + 1) ∧ ((fJ bs n i v f0 p0 (j + 1)).1 = 0 → x.toInt = nv bs n i j)) ∨ (tkK bs n (tP bs n i (j + 1)) ≠ 2 ∧ FM rl7 [148] w w' ∧ AF w w' ∧ BK w' bs n (tP bs n i (j + 1)) ∧ r = some (.int lo)) := by
  rcases F210 h q with ⟨z1, z2, z3, b, x, z4, z5, z6, z7, z8⟩ | ⟨z1, z2, z3, z4, z5⟩
  · refine Or.inl ⟨z1, FM_mono z2 (by decide) (by decide), z3, FM_i z2 (by decide), x, z6, ?_, ?_⟩
    · unfold RJ
      rw [fJ_s hj]
      rcases hb with hb | hb
      · rw [ntF_any (b' := b) (kd' := 2) hb, ntP_any (b' := b) (q' := pl bs n (tP bs n i (j + 1))) hb]
        exact z5
      · have e : b = bJ bs n i v j := bool_iff (z4.trans (hb.symm.trans bJ_iff.symm))
        rw [← e]
        exact z5
    · intro hz
      rw [fJ_s hj] at hz
      have hz : ntF (bJ bs n i v j) 2 (fJ bs n i v f0 p0 j).1 = 0 := hz
      cases hbj : bJ bs n i v j with
      | true =>
        exfalso
        rw [hbj, ntF_t] at hz
        by_cases c : (fJ bs n i v f0 p0 j).1 = 0
        · rw [if_pos c] at hz; exact absurd hz (by decide +kernel)
        · rw [if_neg c] at hz; exact c hz
      | false =>
        rw [hbj] at hz
        have hz : (fJ bs n i v f0 p0 j).1 = 0 := hz
        rcases hb with hb | hb
        · exact absurd hz hb
        · have e : b = bJ bs n i v j := bool_iff (z4.trans (hb.symm.trans bJ_iff.symm))
          rw [hbj] at e
          exact z7 e
  · exact Or.inr ⟨z1, FM_mono z2 (by decide) (by decide), z3, z4, z5⟩
theorem R_per {than : Int32} (hj : j < 8) (hb : (fJ bs n i v f0 p0 j).1 ≠ 0 ∨ (badI v j (nv bs n i j) (nv bs n i) ↔ (nv bs n i j = than.toInt ∨ ¬ (0 ≤ nv bs n i j ∧ nv bs n i j ≤ 8)))) (h : RJ w bs n i v f0 p0 j) (q : PS X k 212 0 [.ref 147, .int than, pm_dead] [] w r w') : (tkK bs n (tP bs n i (j + 1)) = 2 ∧ FM rl7 [148] w w' ∧ AF w w' ∧ ∃ x : Int32, r = some (.int x) ∧ RJ w' bs n i v f0 p0 (j + 1) ∧ ((fJ bs n i v f0 p0 (j + 1)).1 = 0 → x.toInt = nv bs n i j) ∧ (0 ≤ x.toInt ∧ x.toInt ≤ 8) ∧ gI w' 147 9 = (if x ≤ gI w 147 9 then gI w 147 9 else x)) ∨ (tkK bs n (tP bs n i (j + 1)) ≠ 2 ∧ FM rl7 [148] w w' ∧ AF w w' ∧ BK w' bs n (tP bs n i (j + 1)) ∧ ∃ x : Int32, r = some (.int x)) := by
  rcases F212 h q with ⟨z1, z2, z3, b, x, z4, z5, z6, z7, z8, z9⟩ | ⟨z1, z2, z3, z4, z5⟩
  · refine Or.inl ⟨z1, z2, z3, x, z6, ?_, ?_, z8, z9⟩
    · unfold RJ
      rw [fJ_s hj]
      rcases hb with hb | hb
      · rw [ntF_any (b' := b) (kd' := 2) hb, ntP_any (b' := b) (q' := pl bs n (tP bs n i (j + 1))) hb]
        exact z5
      · have e : b = bJ bs n i v j := bool_iff (z4.trans (hb.symm.trans bJ_iff.symm))
        rw [← e]
        exact z5
    · intro hz
      rw [fJ_s hj] at hz
      have hz : ntF (bJ bs n i v j) 2 (fJ bs n i v f0 p0 j).1 = 0 := hz
      cases hbj : bJ bs n i v j with
      | true =>
        exfalso
        rw [hbj, ntF_t] at hz
        by_cases c : (fJ bs n i v f0 p0 j).1 = 0
        · rw [if_pos c] at hz; exact absurd hz (by decide +kernel)
        · rw [if_neg c] at hz; exact c hz
      | false =>
        rw [hbj] at hz
        have hz : (fJ bs n i v f0 p0 j).1 = 0 := hz
        rcases hb with hb | hb
        · exact absurd hz hb
        · have e : b = bJ bs n i v j := bool_iff (z4.trans (hb.symm.trans bJ_iff.symm))
          rw [hbj] at e
          exact z7 e
  · exact Or.inr ⟨z1, z2, z3, z4, z5⟩
/-- the line's end returns -/
def E214 (X : pm_X) (w : pm_W) : Prop := ∀ (k : Nat) (r : Option Value) (w' : pm_W), PS X k 214 0 [.ref 147] [] w r w' → r = none ∧ SK w'
theorem E214_R {f : Int32} (h : RS w bs n i f p) : E214 X w := by
  intro k r w' q
  obtain ⟨z1, z2⟩ := F214 h q
  rcases z2 with ⟨_, z, _⟩ | ⟨_, z, _⟩
  · exact ⟨z1, z.2.2.2⟩
  · exact ⟨z1, z.2.2.2⟩
theorem E214_B (h : BK w bs n i) : E214 X w := by
  intro k r w' q
  obtain ⟨z1, z2⟩ := F214_w h.1 h.2.1 q
  rw [z2]
  exact ⟨z1, h.1⟩
/-- to the line's end, past the verbs that it is not -/
theorem T212 {x y : Int32} {u3 u4 : Value} (hS : SK w) (hE : E214 X w) (q : PS X k 207 212 [.ref 147, .int x, .int y, u3, u4] [] w r w') : r = none ∧ ∃ k', PS X k' 214 0 [.ref 147] [] w none w' := by
  cases k with
  | zero => exact (PS_0 q).elim
  | succ k =>
    obtain ⟨r1, w1, q1, q2⟩ := U207_212 hS q
    obtain ⟨e, hS1⟩ := hE _ _ _ q1
    subst e
    have q := q2 rfl hS1
    rw [q.2]
    exact ⟨q.1, _, q1⟩
theorem T201 {x y : Int32} {u3 u4 : Value} (hS : SK w) (hE : E214 X w) (h7 : y ≠ 7) (q : PS X k 207 201 [.ref 147, .int x, .int y, u3, u4] [] w r w') : r = none ∧ ∃ k', PS X k' 214 0 [.ref 147] [] w none w' := by
  cases k with
  | zero => exact (PS_0 q).elim
  | succ k =>
    have q := U207_201 hS q
    rw [if_neg h7] at q
    exact T212 hS hE q
theorem T182 {x y : Int32} {u3 u4 : Value} (hS : SK w) (hE : E214 X w) (h6 : y ≠ 6) (h7 : y ≠ 7) (q : PS X k 207 182 [.ref 147, .int x, .int y, u3, u4] [] w r w') : r = none ∧ ∃ k', PS X k' 214 0 [.ref 147] [] w none w' := by
  cases k with
  | zero => exact (PS_0 q).elim
  | succ k =>
    have q := U207_182 hS q
    rw [if_neg h6] at q
    exact T201 hS hE h7 q
theorem T121 {x y : Int32} {u3 u4 : Value} (hS : SK w) (hE : E214 X w) (h4 : y ≠ 4) (h5 : y ≠ 5) (h6 : y ≠ 6) (h7 : y ≠ 7) (q : PS X k 207 121 [.ref 147, .int x, .int y, u3, u4] [] w r w') : r = none ∧ ∃ k', PS X k' 214 0 [.ref 147] [] w none w' := by
  cases k with
  | zero => exact (PS_0 q).elim
  | succ k =>
    have q := U207_121 hS q
    rw [if_neg h4, if_neg h5] at q
    exact T182 hS hE h6 h7 q
theorem T70 {x y : Int32} {u3 u4 : Value} (hS : SK w) (hE : E214 X w) (h3 : y ≠ 3) (h4 : y ≠ 4) (h5 : y ≠ 5) (h6 : y ≠ 6) (h7 : y ≠ 7) (q : PS X k 207 70 [.ref 147, .int x, .int y, u3, u4] [] w r w') : r = none ∧ ∃ k', PS X k' 214 0 [.ref 147] [] w none w' := by
  cases k with
  | zero => exact (PS_0 q).elim
  | succ k =>
    have q := U207_70 hS q
    rw [if_neg h3] at q
    exact T121 hS hE h4 h5 h6 h7 q
theorem T31 {x y : Int32} (hS : SK w) (hE : E214 X w) (h2 : y ≠ 2) (h3 : y ≠ 3) (h4 : y ≠ 4) (h5 : y ≠ 5) (h6 : y ≠ 6) (h7 : y ≠ 7) (q : PS X k 207 31 [.ref 147, .int x, .int y, pm_dead, pm_dead] [] w r w') : r = none ∧ ∃ k', PS X k' 214 0 [.ref 147] [] w none w' := by
  cases k with
  | zero => exact (PS_0 q).elim
  | succ k =>
    have q := U207_31 hS q
    rw [if_neg h2] at q
    exact T70 hS hE h3 h4 h5 h6 h7 q
/-- a write to read[] or eight[] keeps what is read -/
theorem RS_wr {w1 : pm_W} {f : Int32} (h : RS w bs n i f p) (fm : FM [] [150, 151] w w1) : RS w1 bs n i f p := by
  obtain ⟨s1, s2, s3, s4, s5, s6, s7, s8, s9, s10⟩ := h
  refine ⟨fm.2.2.2, by rw [FM_i fm (by decide)]; exact s2, RTk_FM s3 fm (by decide) (by decide) (by decide) (by decide) (by decide), (rb_FM fm (by decide)).trans s4, (rn_FM fm (by decide)).trans s5, RB_FM s6 fm (by decide) (by decide), ?_, ?_, s9, s10⟩
  · unfold qF; rw [FM_a fm (by decide)]; exact s7
  · unfold qP; rw [FM_a fm (by decide)]; exact s8
theorem BK_wr {w1 : pm_W} (h : BK w bs n i) (fm : FM [] [150, 151] w w1) : BK w1 bs n i := by
  obtain ⟨s1, s2, s3, s4⟩ := h
  exact ⟨fm.2.2.2, by rw [FM_i fm (by decide)]; exact s2, by unfold qF; rw [FM_a fm (by decide)]; exact s3, by unfold qP; rw [FM_a fm (by decide)]; exact s4⟩
theorem badI_lo {x : Int} {ns : Nat → Int} {l : Nat} (h2 : v ≠ 2) (ht : ¬ ((v = 0 ∨ v = 1 ∨ v = 7 ∨ v = 12) ∧ l = 1)) : badI v l x ns ↔ ¬ (lwL v l ≤ x ∧ x ≤ lwH v l) := by
  unfold badI
  constructor
  · rintro (h | h | ⟨h, h3, _⟩ | ⟨h, _⟩) z
    · omega
    · omega
    · exact ht ⟨h, h3⟩
    · exact h2 h
  · intro h
    by_cases c : x < lwL v l
    · exact Or.inl c
    · exact Or.inr (Or.inl (by omega))
theorem badI_tw {x : Int} {ns : Nat → Int} (hv : v = 0 ∨ v = 1 ∨ v = 7 ∨ v = 12) : badI v 1 x ns ↔ (x = ns 0 ∨ ¬ (lwL v 1 ≤ x ∧ x ≤ lwH v 1)) := by
  unfold badI
  constructor
  · rintro (h | h | ⟨_, _, h⟩ | ⟨h, _⟩)
    · exact Or.inr (by omega)
    · exact Or.inr (by omega)
    · exact Or.inl h
    · omega
  · rintro (h | h)
    · exact Or.inr (Or.inr (Or.inl ⟨hv, rfl, h⟩))
    · by_cases c : x < lwL v 1
      · exact Or.inl c
      · exact Or.inr (Or.inl (by omega))
theorem FI_lt (hv : v ≠ 2) (hj : j < dueN v) (hK : ∀ t, t < j → tkK bs n (tP bs n i (t + 1)) = 2) (h : tkK bs n (tP bs n i (j + 1)) ≠ 2) : FI bs n i v j := ⟨hK, fun _ => ⟨by omega, fun z => by omega, fun _ => h⟩, fun z => absurd z hv⟩
def rl6 : List (Nat × Nat) := [(147, 3), (147, 4), (147, 5), (147, 6), (147, 7), (147, 8)]
theorem END_R {m : Nat} (hv : v ≠ 2) (hm : dueN v = m) (hK : ∀ t, t < m → tkK bs n (tP bs n i (t + 1)) = 2) (h : RJ w bs n i v f0 p0 m) (q : PS X k 214 0 [.ref 147] [] w none w') : FM rl6 [148] w w' ∧ AF w w' ∧ ((OK bs n i v m ∧ RS w' bs n (tP bs n i (m + 2)) (fJ bs n i v f0 p0 m).1 (fJ bs n i v f0 p0 m).2) ∨ (FI bs n i v m ∧ BK w' bs n (tP bs n i (m + 1)))) := by
  obtain ⟨_, z⟩ := F214 h q
  rcases z with ⟨z1, z2, z3, z4⟩ | ⟨z1, z2, z3, z4⟩
  · exact ⟨FM_mono z2 (by decide) (by decide), z3, Or.inl ⟨⟨hK, fun _ => hm.symm, fun y => absurd y hv, z1⟩, z4⟩⟩
  · exact ⟨FM_mono z2 (by decide) (by decide), z3, Or.inr ⟨⟨hK, fun _ => ⟨by omega, fun _ => z1, fun y => by omega⟩, fun y => absurd y hv⟩, z4⟩⟩
theorem END_B (h : BK w bs n i) (q : PS X k 214 0 [.ref 147] [] w none w') : w' = w := (F214_w h.1 h.2.1 q).2
/-- read[], by cell; a number told, as 32 bits -/
def rcl (w : pm_W) (q : Nat) : Int32 := (gA w 150).getD q 0
def ns32 (bs : Nat → Int32) (n i : Nat) (t : Nat) : Int32 := Int32.ofInt (nv bs n i t)
theorem ns32_of {x : Int32} {t : Nat} (h : x.toInt = nv bs n i t) : x = ns32 bs n i t := by
  unfold ns32
  rw [← h, Int32.ofInt_toInt]
theorem dN (v : Nat) (d : Nat) (h : Nat.beq (dueN v) d = true) : dueN v = d := Nat.eq_of_beq_eq_true h
/-- the outcome of a village's line -/
def VL (w w' : pm_W) (bs : Nat → Int32) (n i : Nat) (f0 p0 : Int32) (v : Nat) : Prop := FM rl7 [148, 150, 151] w w' ∧ AF w w' ∧ ∃ m, (FI bs n i v m ∧ BK w' bs n (tP bs n i (m + 1))) ∨ (OK bs n i v m ∧ RS w' bs n (tP bs n i (m + 2)) (fJ bs n i v f0 p0 m).1 (fJ bs n i v f0 p0 m).2 ∧ ((fJ bs n i v f0 p0 m).1 = 0 → (gA w' 150).length = 272 ∧ (∀ q, rcl w' q = kS v (rcl w) (ns32 bs n i) q) ∧ (gI w' 147 9).toInt = gS v (gI w 147 9).toInt (ns32 bs n i)))
/-- people -/
theorem VL_6 {x0 : Int32} (hl : (gA w 150).length = 272) (h : RJ w bs n i 6 f0 p0 0) (q : ∃ (r4 : Option Value) (w5 : pm_W), PS X k 210 0 [.ref 147, .int 2, .int 9, pm_dead] [] w r4 w5 ∧ (∀ x6 : Int32, r4 = some (.int x6) → SK w5 → (aI w5 150 0 ∧ (∀ w7 : pm_W, w7 = aS w5 150 0 x6 → (PS X k 207 31 [.ref 147, .int x0, .int 1, pm_dead, pm_dead] [] w7 r w'))))) : r = none ∧ VL w w' bs n i f0 p0 6 := by
  obtain ⟨r4, w5, q1, q2⟩ := q
  have e2 : (2 : Int32).toInt = 2 := two32
  have e9 : (9 : Int32).toInt = 9 := by decide +kernel
  have hd : dueN 6 = 1 := dN _ _ (by decide +kernel)
  rcases R_num (by decide) (Or.inr (by rw [badI_lo (by decide) (by decide), show lwL 6 0 = 2 from by decide +kernel, show lwH 6 0 = 9 from by decide +kernel, e2, e9])) h q1 with ⟨z1, z2, z3, z9, x, z4, z5, z6⟩ | ⟨z1, z2, z3, z4, z5⟩
  · obtain ⟨hI, q⟩ := q2 x z4 z2.2.2.2
    have q := q _ rfl
    obtain ⟨w7, e7⟩ : ∃ w7, w7 = aS w5 150 0 x := ⟨_, rfl⟩
    rw [← e7] at q
    have f7 : FM [] [150, 151] w5 w7 := by rw [e7]; exact FM_aS z2.2.2.2 (by decide)
    have h7 : RJ w7 bs n i 6 f0 p0 1 := RS_wr z5 f7
    obtain ⟨y1, k', y2⟩ := T31 f7.2.2.2 (E214_R h7) (by decide +kernel) (by decide +kernel) (by decide +kernel) (by decide +kernel) (by decide +kernel) (by decide +kernel) q
    obtain ⟨g1, g2, g3⟩ := END_R (by decide) hd (fun t ht => by rw [show t = 0 by omega]; exact z1) h7 y2
    have fa : FM rl7 [148, 150, 151] w w' := FM_trans (FM_mono z2 (by decide) (by decide)) (FM_trans (FM_mono f7 (by decide) (by decide)) (FM_mono g1 (by decide) (by decide)))
    refine ⟨y1, fa, AF_trans (AF_trans z3 (AF_eq (FM_a f7 (by decide)))) g2, 1, ?_⟩
    rcases g3 with ⟨g3, g4⟩ | g3
    · refine Or.inr ⟨g3, g4, fun hz => ?_⟩
      have ga : gA w' 150 = (gA w 150).set 0 x := by rw [FM_a g1 (by decide), e7, gA_aS (aI_isA hI), i_nat (n := 0) z32, FM_a z2 (by decide)]
      refine ⟨by rw [ga, List.length_set]; exact hl, fun q => ?_, ?_⟩
      · unfold rcl
        rw [ga, getD_set (by omega), ns32_of (z6 hz)]
        rfl
      · rw [FM_i g1 (by decide), e7, gI_aS, z9]
        rfl
    · exact Or.inl g3
  · obtain ⟨hI, q⟩ := q2 _ z5 z2.2.2.2
    have q := q _ rfl
    obtain ⟨w7, e7⟩ : ∃ w7, w7 = aS w5 150 0 2 := ⟨_, rfl⟩
    rw [← e7] at q
    have f7 : FM [] [150, 151] w5 w7 := by rw [e7]; exact FM_aS z2.2.2.2 (by decide)
    have h7 := BK_wr z4 f7
    obtain ⟨y1, k', y2⟩ := T31 f7.2.2.2 (E214_B h7) (by decide +kernel) (by decide +kernel) (by decide +kernel) (by decide +kernel) (by decide +kernel) (by decide +kernel) q
    have e := END_B h7 y2
    rw [e]
    exact ⟨y1, FM_trans (FM_mono z2 (by decide) (by decide)) (FM_mono f7 (by decide) (by decide)), AF_trans z3 (AF_eq (FM_a f7 (by decide))), 0, Or.inl ⟨FI_lt (by decide) (by omega) (fun t ht => absurd ht (Nat.not_lt_zero t)) z1, h7⟩⟩
end FP
