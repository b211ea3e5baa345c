/-! ===== the class's reader: verbs, judging ===== -/
section FH
variable {X : pm_X} {k : Nat} {w w' : pm_W} {r : Option Value} {p p1 p2 p3 : Int32}
/-- the current token is the one from i on -/
def CTk (w : pm_W) (bs : Nat → Int32) (n i : Nat) : Prop := gI w 23 6 = Int32.ofNat (tkK bs n i) ∧ (gI w 23 7).toInt = (tkS bs n i : Nat) ∧ (gI w 23 5).toInt = (tkN bs n i : Nat) ∧ (tkK bs n i = 2 → (gI w 23 8).toInt = tkV bs n i)
theorem tkS_b {bs : Nat → Int32} {n i : Nat} : i ≤ tkS bs n i ∧ tkS bs n i ≤ i + (n - i) := spn_le _ _
theorem tkE_b {P : Int32 → Bool} {bs : Nat → Int32} {n s : Nat} : s ≤ tkE P bs n s ∧ tkE P bs n s ≤ s + (n - s) := spn_le _ _
theorem tkE_1 {P : Int32 → Bool} {bs : Nat → Int32} {n s : Nat} (h : s < n) (hp : P (bs s) = true) : s + 1 ≤ tkE P bs n s := by
  unfold tkE
  rw [spn_t h hp]
  exact (spn_le _ _).1
theorem tkE_all {P : Int32 → Bool} {bs : Nat → Int32} {n : Nat} : ∀ (m s : Nat), n - s ≤ m → ∀ j, s ≤ j → j < tkE P bs n s → P (bs j) = true
  | 0, s, hm, j, h1, h2 => by
    unfold tkE at h2
    rw [show n - s = 0 by omega] at h2
    exact absurd h2 (by show ¬ j < s; omega)
  | m + 1, s, hm, j, h1, h2 => by
    by_cases c : s < n
    · cases hp : P (bs s) with
      | false =>
        unfold tkE at h2
        rw [spn_f hp] at h2
        omega
      | true =>
        by_cases e : j = s
        · rw [e]; exact hp
        · unfold tkE at h2
          rw [spn_t c hp] at h2
          exact tkE_all m (s + 1) (by omega) j (by omega) h2
    · unfold tkE at h2
      rw [spn_n (by omega)] at h2
      omega
/-- a token goes on, and ends within -/
theorem tkN_b {bs : Nat → Int32} {n i : Nat} (h : tkK bs n i ≠ 0) : tkS bs n i < n ∧ tkS bs n i + 1 ≤ tkN bs n i ∧ tkN bs n i ≤ n := by
  unfold tkK at h
  unfold tkN
  by_cases c : n ≤ tkS bs n i
  · rw [if_pos c] at h
    exact absurd rfl h
  · rw [if_neg c]
    refine ⟨by omega, ?_⟩
    by_cases c1 : isLt (bs (tkS bs n i)) = true
    · rw [if_pos c1]
      have q := tkE_b (P := isLt) (bs := bs) (n := n) (s := tkS bs n i)
      have q2 := tkE_1 (n := n) (by omega) c1
      omega
    · rw [if_neg c1]
      by_cases c2 : isDg (bs (tkS bs n i)) = true
      · rw [if_pos c2]
        have q := tkE_b (P := isDg) (bs := bs) (n := n) (s := tkS bs n i)
        have q2 := tkE_1 (n := n) (by omega) c2
        omega
      · rw [if_neg c2]
        omega
theorem tkN_n {bs : Nat → Int32} {n i : Nat} (hi : i ≤ n) : tkS bs n i ≤ n ∧ tkN bs n i ≤ n := by
  have q := tkS_b (bs := bs) (n := n) (i := i)
  refine ⟨by omega, ?_⟩
  by_cases c : tkK bs n i = 0
  · unfold tkK at c
    unfold tkN
    by_cases c1 : n ≤ tkS bs n i
    · rw [if_pos c1]; omega
    · rw [if_neg c1] at c
      by_cases c2 : isLt (bs (tkS bs n i)) = true
      · rw [if_pos c2] at c; exact absurd c (by decide)
      · rw [if_neg c2] at c
        by_cases c3 : isDg (bs (tkS bs n i)) = true
        · rw [if_pos c3] at c
          by_cases c4 : tkE isDg bs n (tkS bs n i) ≤ tkS bs n i + 2
          · rw [if_pos c4] at c; exact absurd c (by decide)
          · rw [if_neg c4] at c; exact absurd c (by decide)
        · rw [if_neg c3] at c
          by_cases c4 : bs (tkS bs n i) = 59
          · rw [if_pos c4] at c; exact absurd c (by decide)
          · rw [if_neg c4] at c; exact absurd c (by decide)
  · exact (tkN_b c).2.2
theorem tkK_4 {bs : Nat → Int32} {n i : Nat} : tkK bs n i ≤ 4 := by
  unfold tkK
  split
  · omega
  · split
    · omega
    · split
      · split <;> omega
      · split <;> omega
theorem tkK_inj {a b : Nat} (ha : a ≤ 4) (hb : b ≤ 4) : Int32.ofNat a = Int32.ofNat b ↔ a = b := by
  have ca : a = 0 ∨ a = 1 ∨ a = 2 ∨ a = 3 ∨ a = 4 := by omega
  have cb' : b = 0 ∨ b = 1 ∨ b = 2 ∨ b = 3 ∨ b = 4 := by omega
  rcases ca with rfl | rfl | rfl | rfl | rfl <;> rcases cb' with rfl | rfl | rfl | rfl | rfl <;> decide +kernel
/-- the letters of a token -/
theorem tkK_1 {bs : Nat → Int32} {n i : Nat} (h : tkK bs n i = 1) : ∀ j, j < tkN bs n i - tkS bs n i → isLt (bs (tkS bs n i + j)) = true := by
  have c1 : ¬ n ≤ tkS bs n i := by
    intro c
    unfold tkK at h
    rw [if_pos c] at h
    exact absurd h (by decide)
  have c2 : isLt (bs (tkS bs n i)) = true := by
    cases q : isLt (bs (tkS bs n i)) with
    | true => rfl
    | false =>
      unfold tkK at h
      rw [if_neg c1, q, if_neg Bool.false_ne_true] at h
      by_cases c3 : isDg (bs (tkS bs n i)) = true
      · rw [if_pos c3] at h
        by_cases c4 : tkE isDg bs n (tkS bs n i) ≤ tkS bs n i + 2
        · rw [if_pos c4] at h; exact absurd h (by decide)
        · rw [if_neg c4] at h; exact absurd h (by decide)
      · rw [if_neg c3] at h
        by_cases c4 : bs (tkS bs n i) = 59
        · rw [if_pos c4] at h; exact absurd h (by decide)
        · rw [if_neg c4] at h; exact absurd h (by decide)
  have e : tkN bs n i = tkE isLt bs n (tkS bs n i) := by
    unfold tkN
    rw [if_neg c1, if_pos c2]
  rw [e]
  intro j hj
  exact tkE_all (P := isLt) (bs := bs) (n := n) (n - tkS bs n i) (tkS bs n i) (Nat.le_refl _) (tkS bs n i + j) (by omega) (by omega)
/-- the verb that the class finds: by the code of the letters -/
theorem F30 (hX : XO X) (hS : SK w) {n i : Nat} (hT : CTk w (cb w) n i) (hn : cn w = n) (hi : i ≤ n) (h : PS X k 30 0 [.ref 23, .int p, pm_dead, pm_dead, pm_dead] [] w r w') : w' = w ∧ ∃ y : Int32, r = some (.int y) ∧ y.toInt = (if tkK (cb w) n i = 1 then vbR (decide (p = 0)) (wdC (cb w) (tkS (cb w) n i) (tkN (cb w) n i)) else -1) := by
  cases k with
  | zero => exact (PS_0 h).elim
  | succ k =>
    have h := U30_0 hS h
    have m1 : ((-1 : Int32)).toInt = -1 := by decide +kernel
    by_cases c1 : gI w 23 6 = 1
    · rw [if_pos c1] at h
      rw [hT.1, show (1 : Int32) = Int32.ofNat 1 from by decide +kernel, tkK_inj tkK_4 (by decide)] at c1
      rw [if_pos c1]
      have hb := tkN_b (bs := cb w) (n := n) (i := i) (by rw [c1]; decide)
      have hl := tkK_1 c1
      by_cases c2 : p = 0
      · rw [if_pos c2] at h
        simp only [c2, decide_true] at h ⊢
        obtain ⟨z1, z2⟩ := F30_36 hX (b0 := 13) (by decide +kernel) (by decide) _ _ 6 _ hS (by decide +kernel) hT.2.1 hT.2.2.1 (by omega) (by omega) h
        refine ⟨z1, ?_⟩
        unfold vbR
        rw [if_pos rfl]
        rcases z2 with ⟨z2, z3⟩ | ⟨u, y, z2, z3, z4, z5, z6⟩
        · refine ⟨_, z2, ?_⟩
          rw [m1, if_neg]
          intro q
          obtain ⟨v, hv⟩ : ∃ v : Nat, v = ((wdC (cb w) (tkS (cb w) n i) (tkN (cb w) n i)).toInt + 5).toNat := ⟨_, rfl⟩
          refine z3 v (by omega) (by omega) ((mt_wd (by omega) (by omega) hl).mpr ?_)
          refine Int32.toInt_inj.mp ?_
          have cv : v = 6 ∨ v = 7 ∨ v = 8 ∨ v = 9 ∨ v = 10 ∨ v = 11 ∨ v = 12 := by omega
          rcases cv with rfl | rfl | rfl | rfl | rfl | rfl | rfl
          · rw [show (vC 6).toInt = 1 from by decide +kernel]; omega
          · rw [show (vC 7).toInt = 2 from by decide +kernel]; omega
          · rw [show (vC 8).toInt = 3 from by decide +kernel]; omega
          · rw [show (vC 9).toInt = 4 from by decide +kernel]; omega
          · rw [show (vC 10).toInt = 5 from by decide +kernel]; omega
          · rw [show (vC 11).toInt = 6 from by decide +kernel]; omega
          · rw [show (vC 12).toInt = 7 from by decide +kernel]; omega
        · refine ⟨y, z2, ?_⟩
          have ec := (mt_wd (by omega) (by omega) hl).mp z6
          rw [z3, ec]
          have cv : u = 6 ∨ u = 7 ∨ u = 8 ∨ u = 9 ∨ u = 10 ∨ u = 11 ∨ u = 12 := by omega
          rcases cv with rfl | rfl | rfl | rfl | rfl | rfl | rfl <;> decide +kernel
      · rw [if_neg c2] at h
        simp only [c2, decide_false] at h ⊢
        obtain ⟨z1, z2⟩ := F30_36 hX (b0 := 6) (by decide +kernel) (by decide) _ _ 0 _ hS (by decide +kernel) hT.2.1 hT.2.2.1 (by omega) (by omega) h
        refine ⟨z1, ?_⟩
        unfold vbR
        rw [if_neg Bool.false_ne_true]
        rcases z2 with ⟨z2, z3⟩ | ⟨u, y, z2, z3, z4, z5, z6⟩
        · refine ⟨_, z2, ?_⟩
          rw [m1, if_neg]
          intro q
          obtain ⟨v, hv⟩ : ∃ v : Nat, v = ((wdC (cb w) (tkS (cb w) n i) (tkN (cb w) n i)).toInt - 11).toNat := ⟨_, rfl⟩
          refine z3 v (by omega) (by omega) ((mt_wd (by omega) (by omega) hl).mpr ?_)
          refine Int32.toInt_inj.mp ?_
          have cv : v = 0 ∨ v = 1 ∨ v = 2 ∨ v = 3 ∨ v = 4 ∨ v = 5 := by omega
          rcases cv with rfl | rfl | rfl | rfl | rfl | rfl
          · rw [show (vC 0).toInt = 11 from by decide +kernel]; omega
          · rw [show (vC 1).toInt = 12 from by decide +kernel]; omega
          · rw [show (vC 2).toInt = 13 from by decide +kernel]; omega
          · rw [show (vC 3).toInt = 14 from by decide +kernel]; omega
          · rw [show (vC 4).toInt = 15 from by decide +kernel]; omega
          · rw [show (vC 5).toInt = 16 from by decide +kernel]; omega
        · refine ⟨y, z2, ?_⟩
          have ec := (mt_wd (by omega) (by omega) hl).mp z6
          rw [z3, ec]
          have cv : u = 0 ∨ u = 1 ∨ u = 2 ∨ u = 3 ∨ u = 4 ∨ u = 5 := by omega
          rcases cv with rfl | rfl | rfl | rfl | rfl | rfl <;> decide +kernel
    · rw [if_neg c1] at h
      rw [hT.1, show (1 : Int32) = Int32.ofNat 1 from by decide +kernel, tkK_inj tkK_4 (by decide)] at c1
      rw [if_neg c1]
      exact ⟨h.2, _, h.1, m1⟩
theorem F45 (hS : SK w) (h : PS X k 45 0 [.int p] [] w r w') : r = some (.int (b2i (decide (p.toInt ≤ 5)))) ∧ w' = w := by
  cases k with
  | zero => exact (PS_0 h).elim
  | succ k =>
    have h := U45_0 hS h
    have e5 : (5 : Int32).toInt = 5 := by decide +kernel
    by_cases c : 5 < p
    · rw [if_pos c] at h
      rw [Int32.lt_iff_toInt_lt, e5] at c
      rw [decide_eq_false (show ¬ p.toInt ≤ 5 by omega)]
      exact h
    · rw [if_neg c] at h
      rw [Int32.lt_iff_toInt_lt, e5] at c
      rw [decide_eq_true (show p.toInt ≤ 5 by omega)]
      exact h
/-- one want or one act too many -/
def tooM (w : pm_W) (v : Int) : Bool := if v = 12 then decide (7 ≤ (gI w 24 2).toInt) else if v ≤ 5 then decide (30 ≤ (gI w 29 0).toInt) else false
theorem F44 (hS : SK w) (h : PS X k 44 0 [.ref 23, .int p] [] w r w') : r = some (.int (b2i (tooM w p.toInt))) ∧ w' = w := by
  cases k with
  | zero => exact (PS_0 h).elim
  | succ k =>
    have h := U44_0 hS h
    have e12 : (12 : Int32).toInt = 12 := by decide +kernel
    have e7 : (7 : Int32).toInt = 7 := by decide +kernel
    have e30 : (30 : Int32).toInt = 30 := by decide +kernel
    unfold tooM
    by_cases c : p = 12
    · rw [if_pos c] at h
      rw [if_pos (by rw [c]; exact e12)]
      by_cases c2 : gI w 24 2 < 7
      · rw [if_pos c2] at h
        rw [Int32.lt_iff_toInt_lt, e7] at c2
        rw [decide_eq_false (by omega)]
        exact h
      · rw [if_neg c2] at h
        rw [Int32.lt_iff_toInt_lt, e7] at c2
        rw [decide_eq_true (by omega)]
        exact h
    · rw [if_neg c] at h
      rw [if_neg (fun q => c (Int32.toInt_inj.mp (q.trans e12.symm)))]
      have h := use_p hS h (fun _ _ q => F45 hS q)
      by_cases c1 : p.toInt ≤ 5
      · rw [if_pos c1]
        rw [decide_eq_true c1, if_neg (by decide +kernel)] at h
        by_cases c2 : gI w 29 0 < 30
        · rw [if_pos c2] at h
          rw [Int32.lt_iff_toInt_lt, e30] at c2
          rw [decide_eq_false (by omega)]
          exact h
        · rw [if_neg c2] at h
          rw [Int32.lt_iff_toInt_lt, e30] at c2
          rw [decide_eq_true (by omega)]
          exact h
      · rw [if_neg c1]
        rw [decide_eq_false c1, if_pos (by decide +kernel)] at h
        exact h
/-- the first fault stays -/
theorem F46 (hS : SK w) (h : PS X k 46 0 [.ref 23, .int p1, .int p2] [] w r w') : r = none ∧ FM [(23, 10), (23, 11)] [] w w' ∧ gI w' 23 10 = (if gI w 23 10 = 0 then p1 else gI w 23 10) ∧ gI w' 23 11 = (if gI w 23 10 = 0 then p2 else gI w 23 11) := by
  cases k with
  | zero => exact (PS_0 h).elim
  | succ k =>
    have h := U46_0 hS h
    by_cases c : gI w 23 10 = 0
    · rw [if_pos c] at h
      rw [if_pos c, if_pos c]
      obtain ⟨z1, z2⟩ := h _ rfl _ rfl
      rw [z2]
      refine ⟨z1, FM_trans (FM_sI hS (by decide)) (FM_sI (SK_sI hS) (by decide)), ?_, ?_⟩
      · rw [gI_sI_ne (by decide), gI_sI (SK_isF hS (by decide +kernel))]
      · rw [gI_sI (SK_isF (SK_sI hS) (by decide +kernel))]
    · rw [if_neg c] at h
      rw [if_neg c, if_neg c]
      obtain ⟨z1, z2⟩ := h
      rw [z2]
      exact ⟨z1, FM_refl hS, rfl, rfl⟩
end FH
