/-! ===== tokens: what both sides read ===== -/
def b2i (b : Bool) : Int32 := cond b 1 0
def isBl (c : Int32) : Bool := decide (c = 10) || decide (c = 32)
def isLt (c : Int32) : Bool := decide (97 ≤ c.toInt) && decide (c.toInt ≤ 122)
def isDg (c : Int32) : Bool := decide (48 ≤ c.toInt) && decide (c.toInt ≤ 57)
/-- from i on, m at most, as long as P holds -/
def spn (P : Int32 → Bool) (bs : Nat → Int32) : Nat → Nat → Nat
  | 0, i => i
  | m + 1, i => cond (P (bs i)) (spn P bs m (i + 1)) i
theorem spn_le {P : Int32 → Bool} {bs : Nat → Int32} : ∀ (m i : Nat), i ≤ spn P bs m i ∧ spn P bs m i ≤ i + m
  | 0, i => ⟨Nat.le_refl _, Nat.le_refl _⟩
  | m + 1, i => by
    have q := spn_le (P := P) (bs := bs) m (i + 1)
    unfold spn
    cases P (bs i) with
    | true => exact ⟨by show i ≤ spn P bs m (i + 1); omega, by show spn P bs m (i + 1) ≤ i + (m + 1); omega⟩
    | false => exact ⟨Nat.le_refl _, by show i ≤ i + (m + 1); omega⟩
theorem spn_t {P : Int32 → Bool} {bs : Nat → Int32} {n i : Nat} (h : i < n) (hp : P (bs i) = true) : spn P bs (n - i) i = spn P bs (n - (i + 1)) (i + 1) := by
  obtain ⟨m, hm⟩ : ∃ m, n - i = m + 1 := ⟨n - i - 1, by omega⟩
  rw [hm, show n - (i + 1) = m by omega]
  show cond (P (bs i)) _ _ = _
  rw [hp]
  rfl
theorem spn_f {P : Int32 → Bool} {bs : Nat → Int32} {n i : Nat} (hp : P (bs i) = false) : spn P bs (n - i) i = i := by
  cases n - i with
  | zero => rfl
  | succ m =>
    show cond (P (bs i)) _ _ = _
    rw [hp]
    rfl
theorem spn_n {P : Int32 → Bool} {bs : Nat → Int32} {n i : Nat} (h : n ≤ i) : spn P bs (n - i) i = i := by
  rw [show n - i = 0 by omega]
  rfl
theorem spn_congr {P : Int32 → Bool} {bs cs : Nat → Int32} : ∀ (m i : Nat), (∀ j, i ≤ j → j < i + m → P (bs j) = P (cs j)) → spn P bs m i = spn P cs m i
  | 0, i, h => rfl
  | m + 1, i, h => by
    unfold spn
    rw [h i (Nat.le_refl _) (by omega), spn_congr m (i + 1) (fun j h1 h2 => h j (by omega) (by omega))]
def tkS (bs : Nat → Int32) (n i : Nat) : Nat := spn isBl bs (n - i) i
def tkE (P : Int32 → Bool) (bs : Nat → Int32) (n s : Nat) : Nat := spn P bs (n - s) s
/-- a token's kind: 0 the end, 1 letters, 2 a number, 3 a semicolon, 4 none -/
def tkK (bs : Nat → Int32) (n i : Nat) : Nat := if n ≤ tkS bs n i then 0 else if isLt (bs (tkS bs n i)) = true then 1 else if isDg (bs (tkS bs n i)) = true then (if tkE isDg bs n (tkS bs n i) ≤ tkS bs n i + 2 then 2 else 4) else if bs (tkS bs n i) = 59 then 3 else 4
def tkN (bs : Nat → Int32) (n i : Nat) : Nat := if n ≤ tkS bs n i then tkS bs n i else if isLt (bs (tkS bs n i)) = true then tkE isLt bs n (tkS bs n i) else if isDg (bs (tkS bs n i)) = true then tkE isDg bs n (tkS bs n i) else tkS bs n i + 1
/-- the number that t digits from s on make, two at most -/
def dgV (bs : Nat → Int32) (s t : Nat) : Int := if t = 0 then 0 else if t = 1 then (bs s).toInt - 48 else 10 * ((bs s).toInt - 48) + (bs (s + 1)).toInt - 48
def tkV (bs : Nat → Int32) (n i : Nat) : Int := dgV bs (tkS bs n i) (tkE isDg bs n (tkS bs n i) - tkS bs n i)
section FB
variable {X : pm_X} {k : Nat} {w w' : pm_W} {r : Option Value} {p : Int32}
theorem z32 : (0 : Int32).toInt = 0 := by decide +kernel
theorem o32 : (1 : Int32).toInt = 1 := by decide +kernel
theorem zi_inc {x : Int32} {n : Int} (h : x.toInt < n) (hn : n ≤ 2147483647) : (x + 1).toInt = x.toInt + 1 := zi_add rfl o32 (by have := zi_lo x; omega) (by omega)
/-- the class's bytes -/
def cb (w : pm_W) (i : Nat) : Int32 := (gA w (gR w 23 3)).getD i 0
def cn (w : pm_W) : Nat := (gI w 23 4).toInt.toNat
def cat (w : pm_W) : Nat := (gI w 23 5).toInt.toNat
def bAt (w : pm_W) (p : Int32) : Int32 := if p < 0 then -1 else if gI w 23 4 ≤ p then -1 else aG w (gR w 23 3) p
theorem F24 (hS : SK w) (h : PS X k 24 0 [.ref 23, .int p] [] w r w') : r = some (.int (bAt w p)) ∧ w' = w := by
  cases k with
  | zero => exact (PS_0 h).elim
  | succ k =>
    have h := U24_0 hS h
    unfold bAt
    by_cases c1 : p < 0
    · rw [if_pos c1] at h ⊢
      exact h
    · rw [if_neg c1] at h ⊢
      by_cases c2 : gI w 23 4 ≤ p
      · rw [if_pos c2] at h ⊢
        exact h
      · rw [if_neg c2] at h ⊢
        exact h.2
theorem bAt_in (h0 : 0 ≤ p.toInt) (h1 : p.toInt < (gI w 23 4).toInt) : bAt w p = cb w p.toInt.toNat := by
  unfold bAt
  rw [if_neg (by rw [Int32.lt_iff_toInt_lt, z32]; omega), if_neg (by rw [Int32.le_iff_toInt_le]; omega)]
  rfl
theorem F25 (hS : SK w) (h : PS X k 25 0 [.int p] [] w r w') : r = some (.int (b2i (isBl p))) ∧ w' = w := by
  cases k with
  | zero => exact (PS_0 h).elim
  | succ k =>
    have h := U25_0 hS h
    unfold isBl
    by_cases c1 : p = 10
    · rw [if_pos c1] at h
      rw [decide_eq_true c1]
      exact h
    · rw [if_neg c1] at h
      rw [decide_eq_false c1]
      by_cases c2 : p = 32
      · rw [if_pos c2] at h
        rw [decide_eq_true c2]
        exact h
      · rw [if_neg c2] at h
        rw [decide_eq_false c2]
        exact h
theorem F26 (hS : SK w) (h : PS X k 26 0 [.int p] [] w r w') : r = some (.int (b2i (isLt p))) ∧ w' = w := by
  cases k with
  | zero => exact (PS_0 h).elim
  | succ k =>
    have h := U26_0 hS h
    have e1 : (97 : Int32).toInt = 97 := by decide +kernel
    have e2 : (122 : Int32).toInt = 122 := by decide +kernel
    unfold isLt
    by_cases c1 : p < 97
    · rw [if_pos c1] at h
      rw [Int32.lt_iff_toInt_lt, e1] at c1
      rw [decide_eq_false (show ¬ 97 ≤ p.toInt by omega)]
      exact h
    · rw [if_neg c1] at h
      rw [Int32.lt_iff_toInt_lt, e1] at c1
      rw [decide_eq_true (show 97 ≤ p.toInt by omega)]
      by_cases c2 : 122 < p
      · rw [if_pos c2] at h
        rw [Int32.lt_iff_toInt_lt, e2] at c2
        rw [decide_eq_false (show ¬ p.toInt ≤ 122 by omega)]
        exact h
      · rw [if_neg c2] at h
        rw [Int32.lt_iff_toInt_lt, e2] at c2
        rw [decide_eq_true (show p.toInt ≤ 122 by omega)]
        exact h
theorem F27 (hS : SK w) (h : PS X k 27 0 [.int p] [] w r w') : r = some (.int (b2i (isDg p))) ∧ w' = w := by
  cases k with
  | zero => exact (PS_0 h).elim
  | succ k =>
    have h := U27_0 hS h
    have e1 : (48 : Int32).toInt = 48 := by decide +kernel
    have e2 : (57 : Int32).toInt = 57 := by decide +kernel
    unfold isDg
    by_cases c1 : p < 48
    · rw [if_pos c1] at h
      rw [Int32.lt_iff_toInt_lt, e1] at c1
      rw [decide_eq_false (show ¬ 48 ≤ p.toInt by omega)]
      exact h
    · rw [if_neg c1] at h
      rw [Int32.lt_iff_toInt_lt, e1] at c1
      rw [decide_eq_true (show 48 ≤ p.toInt by omega)]
      by_cases c2 : 57 < p
      · rw [if_pos c2] at h
        rw [Int32.lt_iff_toInt_lt, e2] at c2
        rw [decide_eq_false (show ¬ p.toInt ≤ 57 by omega)]
        exact h
      · rw [if_neg c2] at h
        rw [Int32.lt_iff_toInt_lt, e2] at c2
        rw [decide_eq_true (show p.toInt ≤ 57 by omega)]
        exact h
theorem b2i_0 {b : Bool} : b2i b = 0 ↔ b = false := by cases b <;> decide +kernel
/-- one step of at -/
theorem at_step {w1 : pm_W} (hS : SK w) (e : w1 = sI w 23 5 (gI w 23 5 + 1)) (h0 : 0 ≤ (gI w 23 5).toInt) (h1 : (gI w 23 5).toInt < (gI w 23 4).toInt) : SK w1 ∧ FM [(23, 5)] [] w w1 ∧ (gI w1 23 5).toInt = (gI w 23 5).toInt + 1 ∧ gI w1 23 4 = gI w 23 4 ∧ cb w1 = cb w := by
  subst e
  refine ⟨SK_sI hS, FM_sI hS (by decide), ?_, gI_sI_ne (by decide), ?_⟩
  · rw [gI_sI (SK_isF hS (by decide +kernel))]
    exact zi_inc h1 (zi_hi _)
  · funext i
    unfold cb
    rw [gR_sI, gA_sI]
theorem F23_0 : ∀ (k : Nat) (w : pm_W), SK w → 0 ≤ (gI w 23 5).toInt → PS X k 23 0 [.ref 23, pm_dead] [] w r w' → ∃ (k' : Nat) (w1 : pm_W), FM [(23, 5)] [] w w1 ∧ (gI w1 23 5).toInt = (tkS (cb w) (cn w) (cat w) : Nat) ∧ PS X k' 23 38 [.ref 23, pm_dead] [] w1 r w' := by
  intro k
  induction k with
  | zero => intro w hS h0 h; exact (PS_0 h).elim
  | succ k ih =>
    intro w hS h0 h
    have h := U23_0 hS h
    by_cases c1 : gI w 23 4 ≤ gI w 23 5
    · rw [if_pos c1] at h
      rw [Int32.le_iff_toInt_le] at c1
      refine ⟨k, w, FM_refl hS, ?_, h⟩
      unfold tkS
      rw [spn_n (by unfold cn cat; omega)]
      unfold cat
      omega
    · rw [if_neg c1] at h
      rw [Int32.le_iff_toInt_le] at c1
      have h := use_p hS h (fun _ _ q => F24 hS q)
      have h := use_p hS h (fun _ _ q => F25 hS q)
      rw [bAt_in h0 (by omega)] at h
      by_cases c2 : b2i (isBl (cb w (gI w 23 5).toInt.toNat)) = 0
      · rw [if_pos c2] at h
        rw [b2i_0] at c2
        refine ⟨k, w, FM_refl hS, ?_, h⟩
        unfold tkS
        rw [spn_f (by unfold cat; exact c2)]
        unfold cat
        omega
      · rw [if_neg c2] at h
        rw [b2i_0, Bool.not_eq_false] at c2
        obtain ⟨w1, e⟩ : ∃ w1, w1 = sI w 23 5 (gI w 23 5 + 1) := ⟨_, rfl⟩
        have h := h w1 e
        obtain ⟨hS1, f1, a1, n1, b1⟩ := at_step hS e h0 (by omega)
        obtain ⟨k', w2, f2, a2, h2⟩ := ih w1 hS1 (by omega) h
        refine ⟨k', w2, FM_trans f1 f2, ?_, h2⟩
        rw [a2, b1]
        have ec : cat w1 = cat w + 1 := by unfold cat; omega
        have en : cn w1 = cn w := by unfold cn; rw [n1]
        unfold tkS
        rw [ec, en, spn_t (n := cn w) (i := cat w) (by unfold cn cat; omega) c2]
theorem F23_86 : ∀ (k : Nat) (w : pm_W) (x : Int32), SK w → 0 ≤ (gI w 23 5).toInt → PS X k 23 86 [.ref 23, .int x] [] w r w' → r = none ∧ FM [(23, 5)] [] w w' ∧ (gI w' 23 5).toInt = (tkE isLt (cb w) (cn w) (cat w) : Nat) := by
  intro k
  induction k with
  | zero => intro w x hS h0 h; exact (PS_0 h).elim
  | succ k ih =>
    intro w x hS h0 h
    have h := U23_86 hS h
    have fin : ∀ (j : Nat), PS X j 23 163 [.ref 23, .int x] [] w r w' → r = none ∧ w' = w := by
      intro j q
      cases j with
      | zero => exact (PS_0 q).elim
      | succ j => exact U23_163 hS q
    by_cases c1 : gI w 23 4 ≤ gI w 23 5
    · rw [if_pos c1] at h
      rw [Int32.le_iff_toInt_le] at c1
      obtain ⟨e1, e2⟩ := fin _ h
      subst e2
      refine ⟨e1, FM_refl hS, ?_⟩
      unfold tkE
      rw [spn_n (by unfold cn cat; omega)]
      unfold cat
      omega
    · rw [if_neg c1] at h
      rw [Int32.le_iff_toInt_le] at c1
      have h := use_p hS h (fun _ _ q => F24 hS q)
      have h := use_p hS h (fun _ _ q => F26 hS q)
      rw [bAt_in h0 (by omega)] at h
      by_cases c2 : b2i (isLt (cb w (gI w 23 5).toInt.toNat)) = 0
      · rw [if_pos c2] at h
        rw [b2i_0] at c2
        obtain ⟨e1, e2⟩ := fin _ h
        subst e2
        refine ⟨e1, FM_refl hS, ?_⟩
        unfold tkE
        rw [spn_f (by unfold cat; exact c2)]
        unfold cat
        omega
      · rw [if_neg c2] at h
        rw [b2i_0, Bool.not_eq_false] at c2
        obtain ⟨w1, e⟩ : ∃ w1, w1 = sI w 23 5 (gI w 23 5 + 1) := ⟨_, rfl⟩
        have h := h w1 e
        obtain ⟨hS1, f1, a1, n1, b1⟩ := at_step hS e h0 (by omega)
        obtain ⟨e1, f2, a2⟩ := ih w1 x hS1 (by omega) h
        refine ⟨e1, FM_trans f1 f2, ?_⟩
        rw [a2, b1]
        have ec : cat w1 = cat w + 1 := by unfold cat; omega
        have en : cn w1 = cn w := by unfold cn; rw [n1]
        unfold tkE
        rw [ec, en, spn_t (n := cn w) (i := cat w) (by unfold cn cat; omega) c2]
end FB
