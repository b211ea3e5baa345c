/-! ===== the reference's reader: a token ===== -/
section FD
variable {X : pm_X} {k : Nat} {w w' : pm_W} {r : Option Value} {p p1 p2 p3 : Int32}
def rb (w : pm_W) (i : Nat) : Int32 := (gA w 148).getD (10 + i) 0
def rn (w : pm_W) : Nat := (gI w 147 2).toInt.toNat
def rat (w : pm_W) : Nat := (gI w 147 3).toInt.toNat
def rAt (w : pm_W) (p : Int32) : Int32 := if gI w 147 2 ≤ p then -1 else aG w 148 (10 + p)
theorem F202 (hS : SK w) (h : PS X k 202 0 [.ref 147, .int p] [] w r w') : r = some (.int (rAt w p)) ∧ w' = w := by
  cases k with
  | zero => exact (PS_0 h).elim
  | succ k =>
    have h := U202_0 hS h
    unfold rAt
    by_cases c1 : gI w 147 2 ≤ p
    · rw [if_pos c1] at h ⊢
      exact h
    · rw [if_neg c1] at h ⊢
      exact h.2
theorem ten32 : (10 : Int32).toInt = 10 := by decide +kernel
theorem rAt_in (h0 : 0 ≤ p.toInt) (h1 : p.toInt < (gI w 147 2).toInt) (h2 : (gI w 147 2).toInt ≤ 600) : rAt w p = rb w p.toInt.toNat := by
  unfold rAt
  rw [if_neg (by rw [Int32.le_iff_toInt_le]; omega)]
  unfold aG rb
  rw [zi_cl (zi_add ten32 rfl (by omega) (by omega)), show (10 + p.toInt).toNat = 10 + p.toInt.toNat by omega]
theorem rAt_out (h1 : (gI w 147 2).toInt ≤ p.toInt) : rAt w p = -1 := by
  unfold rAt
  rw [if_pos (by rw [Int32.le_iff_toInt_le]; omega)]
theorem F203 (hS : SK w) (h : PS X k 203 0 [.int p] [] w r w') : r = some (.int (b2i (isLt p))) ∧ w' = w := by
  cases k with
  | zero => exact (PS_0 h).elim
  | succ k =>
    have h := U203_0 hS h
    have e1 : (97 : Int32).toInt = 97 := by decide +kernel
    have e2 : (122 : Int32).toInt = 122 := by decide +kernel
    unfold isLt
    by_cases c1 : p < 97
    · rw [if_pos c1] at h
      rw [Int32.lt_iff_toInt_lt, e1] at c1
      rw [decide_eq_false (show ¬ 97 ≤ p.toInt by omega)]
      exact h
    · rw [if_neg c1] at h
      rw [Int32.lt_iff_toInt_lt, e1] at c1
      rw [decide_eq_true (show 97 ≤ p.toInt by omega)]
      by_cases c2 : 122 < p
      · rw [if_pos c2] at h
        rw [Int32.lt_iff_toInt_lt, e2] at c2
        rw [decide_eq_false (show ¬ p.toInt ≤ 122 by omega)]
        exact h
      · rw [if_neg c2] at h
        rw [Int32.lt_iff_toInt_lt, e2] at c2
        rw [decide_eq_true (show p.toInt ≤ 122 by omega)]
        exact h
theorem F206 (hS : SK w) (h : PS X k 206 0 [.int p] [] w r w') : r = some (.int (b2i (isDg p))) ∧ w' = w := by
  cases k with
  | zero => exact (PS_0 h).elim
  | succ k =>
    have h := U206_0 hS h
    have e1 : (48 : Int32).toInt = 48 := by decide +kernel
    have e2 : (57 : Int32).toInt = 57 := by decide +kernel
    unfold isDg
    by_cases c1 : p < 48
    · rw [if_pos c1] at h
      rw [Int32.lt_iff_toInt_lt, e1] at c1
      rw [decide_eq_false (show ¬ 48 ≤ p.toInt by omega)]
      exact h
    · rw [if_neg c1] at h
      rw [Int32.lt_iff_toInt_lt, e1] at c1
      rw [decide_eq_true (show 48 ≤ p.toInt by omega)]
      by_cases c2 : 57 < p
      · rw [if_pos c2] at h
        rw [Int32.lt_iff_toInt_lt, e2] at c2
        rw [decide_eq_false (show ¬ p.toInt ≤ 57 by omega)]
        exact h
      · rw [if_neg c2] at h
        rw [Int32.lt_iff_toInt_lt, e2] at c2
        rw [decide_eq_true (show p.toInt ≤ 57 by omega)]
        exact h
/-- whether a number lies between two -/
def isI (x a b : Int32) : Bool := decide (a.toInt ≤ x.toInt) && decide (x.toInt ≤ b.toInt)
theorem F199 (hS : SK w) (h : PS X k 199 0 [.int p1, .int p2, .int p3] [] w r w') : r = some (.int (b2i (isI p1 p2 p3))) ∧ w' = w := by
  cases k with
  | zero => exact (PS_0 h).elim
  | succ k =>
    have h := U199_0 hS h
    unfold isI
    by_cases c1 : p1 < p2
    · rw [if_pos c1] at h
      rw [Int32.lt_iff_toInt_lt] at c1
      rw [decide_eq_false (show ¬ p2.toInt ≤ p1.toInt by omega)]
      exact h
    · rw [if_neg c1] at h
      rw [Int32.lt_iff_toInt_lt] at c1
      rw [decide_eq_true (show p2.toInt ≤ p1.toInt by omega)]
      by_cases c2 : p3 < p1
      · rw [if_pos c2] at h
        rw [Int32.lt_iff_toInt_lt] at c2
        rw [decide_eq_false (show ¬ p1.toInt ≤ p3.toInt by omega)]
        exact h
      · rw [if_neg c2] at h
        rw [Int32.lt_iff_toInt_lt] at c2
        rw [decide_eq_true (show p1.toInt ≤ p3.toInt by omega)]
        exact h
theorem F205 (hS : SK w) (h : PS X k 205 0 [.int p1, .int p2, .int p3] [] w r w') : r = some (.int ((((p1 * 32) + p2) * 32) + p3)) ∧ w' = w := by
  cases k with
  | zero => exact (PS_0 h).elim
  | succ k => exact U205_0 hS h
/-- a word's code, by the number that its letters make; 99 none -/
def wdK (v : Int) : Int32 := if v = 542622085 then 1 else if v = 769604 then 2 else if v = 1420 then 3 else if v = 6309 then 4 else if v = 599659 then 5 else if v = 20317291 then 6 else if v = 755156 then 7 else if v = 16101 then 11 else if v = 16441 then 12 else if v = 599495 then 13 else if v = 659105125 then 14 else if v = 197932 then 15 else if v = 14137992 then 16 else 99
theorem F204 {v : Int} (hS : SK w) (hv : p.toInt = v) (h : PS X k 204 0 [.int p] [] w r w') : r = some (.int (wdK v)) ∧ w' = w := by
  cases k with
  | zero => exact (PS_0 h).elim
  | succ k =>
    have h := U204_0 hS h
    have g : ∀ (q : Int32) (n : Int), q.toInt = n → (p = q ↔ v = n) := by
      intro q n hq
      rw [← Int32.toInt_inj, hv, hq]
    unfold wdK
    have h := use_p hS h (fun _ _ q => F205 hS q)
    have h := use_p hS h (fun _ _ q => F205 hS q)
    by_cases c1 : v = 542622085
    · rw [if_pos ((g _ 542622085 (by decide +kernel)).mpr c1)] at h
      rw [if_pos c1]
      exact h
    rw [if_neg (fun q => c1 ((g _ 542622085 (by decide +kernel)).mp q))] at h
    rw [if_neg c1]
    have h := use_p hS h (fun _ _ q => F205 hS q)
    by_cases c2 : v = 769604
    · rw [if_pos ((g _ 769604 (by decide +kernel)).mpr c2)] at h
      rw [if_pos c2]
      exact h
    rw [if_neg (fun q => c2 ((g _ 769604 (by decide +kernel)).mp q))] at h
    rw [if_neg c2]
    have h := use_p hS h (fun _ _ q => F205 hS q)
    by_cases c3 : v = 1420
    · rw [if_pos ((g _ 1420 (by decide +kernel)).mpr c3)] at h
      rw [if_pos c3]
      exact h
    rw [if_neg (fun q => c3 ((g _ 1420 (by decide +kernel)).mp q))] at h
    rw [if_neg c3]
    have h := use_p hS h (fun _ _ q => F205 hS q)
    by_cases c4 : v = 6309
    · rw [if_pos ((g _ 6309 (by decide +kernel)).mpr c4)] at h
      rw [if_pos c4]
      exact h
    rw [if_neg (fun q => c4 ((g _ 6309 (by decide +kernel)).mp q))] at h
    rw [if_neg c4]
    have h := use_p hS h (fun _ _ q => F205 hS q)
    by_cases c5 : v = 599659
    · rw [if_pos ((g _ 599659 (by decide +kernel)).mpr c5)] at h
      rw [if_pos c5]
      exact h
    rw [if_neg (fun q => c5 ((g _ 599659 (by decide +kernel)).mp q))] at h
    rw [if_neg c5]
    have h := use_p hS h (fun _ _ q => F205 hS q)
    by_cases c6 : v = 20317291
    · rw [if_pos ((g _ 20317291 (by decide +kernel)).mpr c6)] at h
      rw [if_pos c6]
      exact h
    rw [if_neg (fun q => c6 ((g _ 20317291 (by decide +kernel)).mp q))] at h
    rw [if_neg c6]
    have h := use_p hS h (fun _ _ q => F205 hS q)
    by_cases c7 : v = 755156
    · rw [if_pos ((g _ 755156 (by decide +kernel)).mpr c7)] at h
      rw [if_pos c7]
      exact h
    rw [if_neg (fun q => c7 ((g _ 755156 (by decide +kernel)).mp q))] at h
    rw [if_neg c7]
    have h := use_p hS h (fun _ _ q => F205 hS q)
    by_cases c11 : v = 16101
    · rw [if_pos ((g _ 16101 (by decide +kernel)).mpr c11)] at h
      rw [if_pos c11]
      exact h
    rw [if_neg (fun q => c11 ((g _ 16101 (by decide +kernel)).mp q))] at h
    rw [if_neg c11]
    have h := use_p hS h (fun _ _ q => F205 hS q)
    by_cases c12 : v = 16441
    · rw [if_pos ((g _ 16441 (by decide +kernel)).mpr c12)] at h
      rw [if_pos c12]
      exact h
    rw [if_neg (fun q => c12 ((g _ 16441 (by decide +kernel)).mp q))] at h
    rw [if_neg c12]
    have h := use_p hS h (fun _ _ q => F205 hS q)
    by_cases c13 : v = 599495
    · rw [if_pos ((g _ 599495 (by decide +kernel)).mpr c13)] at h
      rw [if_pos c13]
      exact h
    rw [if_neg (fun q => c13 ((g _ 599495 (by decide +kernel)).mp q))] at h
    rw [if_neg c13]
    have h := use_p hS h (fun _ _ q => F205 hS q)
    have h := use_p hS h (fun _ _ q => F205 hS q)
    by_cases c14 : v = 659105125
    · rw [if_pos ((g _ 659105125 (by decide +kernel)).mpr c14)] at h
      rw [if_pos c14]
      exact h
    rw [if_neg (fun q => c14 ((g _ 659105125 (by decide +kernel)).mp q))] at h
    rw [if_neg c14]
    have h := use_p hS h (fun _ _ q => F205 hS q)
    by_cases c15 : v = 197932
    · rw [if_pos ((g _ 197932 (by decide +kernel)).mpr c15)] at h
      rw [if_pos c15]
      exact h
    rw [if_neg (fun q => c15 ((g _ 197932 (by decide +kernel)).mp q))] at h
    rw [if_neg c15]
    have h := use_p hS h (fun _ _ q => F205 hS q)
    by_cases c16 : v = 14137992
    · rw [if_pos ((g _ 14137992 (by decide +kernel)).mpr c16)] at h
      rw [if_pos c16]
      exact h
    rw [if_neg (fun q => c16 ((g _ 14137992 (by decide +kernel)).mp q))] at h
    rw [if_neg c16]
    exact h
/-- the number that t letters from s on make, six at most -/
def wdV (bs : Nat → Int32) (s : Nat) : Nat → Int
  | 0 => 0
  | t + 1 => if t < 6 then 32 * wdV bs s t + (bs (s + t)).toInt - 96 else wdV bs s t
def wdB (t : Nat) : Int := match t with
  | 0 => 0
  | 1 => 26
  | 2 => 858
  | 3 => 27482
  | 4 => 879450
  | 5 => 28142426
  | _ => 900557658
theorem wdV_b {bs : Nat → Int32} {s : Nat} : ∀ t : Nat, (∀ j, j < t → isLt (bs (s + j)) = true) → 0 ≤ wdV bs s t ∧ wdV bs s t ≤ wdB t
  | 0, h => ⟨Int.le_refl 0, Int.le_refl 0⟩
  | t + 1, h => by
    have q := wdV_b t (fun j hj => h j (by omega))
    have l := isLt_b (h t (by omega))
    show 0 ≤ (if t < 6 then 32 * wdV bs s t + (bs (s + t)).toInt - 96 else wdV bs s t) ∧ (if t < 6 then 32 * wdV bs s t + (bs (s + t)).toInt - 96 else wdV bs s t) ≤ wdB (t + 1)
    by_cases e : t < 6
    · rw [if_pos e]
      have c : t = 0 ∨ t = 1 ∨ t = 2 ∨ t = 3 ∨ t = 4 ∨ t = 5 := by omega
      rcases c with rfl | rfl | rfl | rfl | rfl | rfl <;> (simp only [wdB] at q ⊢; omega)
    · rw [if_neg e]
      obtain ⟨m, rfl⟩ : ∃ m, t = m + 6 := ⟨t - 6, by omega⟩
      exact q
/-- the code of the letters from s to e -/
def wdC (bs : Nat → Int32) (s e : Nat) : Int32 := if e ≤ s + 6 then wdK (wdV bs s (e - s)) else 99
/-- what the reference calls a token -/
def rTk (bs : Nat → Int32) (n i : Nat) : Int32 := match tkK bs n i with
  | 0 => 0
  | 1 => if wdC bs (tkS bs n i) (tkN bs n i) = 99 then 4 else 3
  | 2 => 1
  | 3 => 2
  | _ => 4
theorem rn_FM {fs : List (Nat × Nat)} {as : List Nat} {w1 : pm_W} (h : FM fs as w w1) (q : (147, 2) ∉ fs) : rn w1 = rn w := by unfold rn; rw [FM_i h q]
theorem rb_FM {fs : List (Nat × Nat)} {as : List Nat} {w1 : pm_W} (h : FM fs as w w1) (q : 148 ∉ as) : rb w1 = rb w := by
  funext i
  unfold rb
  rw [FM_a h q]
theorem nx_step {w1 : pm_W} (hS : SK w) (e : w1 = sI w 147 3 (gI w 147 3 + 1)) (h1 : (gI w 147 3).toInt < (gI w 147 2).toInt) : FM [(147, 3)] [] w w1 ∧ (gI w1 147 3).toInt = (gI w 147 3).toInt + 1 := by
  subst e
  refine ⟨FM_sI hS (by decide), ?_⟩
  rw [gI_sI (SK_isF hS (by decide +kernel))]
  exact zi_inc h1 (zi_hi _)
/-- the bytes are 0 to 255, 600 at most -/
def RB (w : pm_W) : Prop := 0 ≤ (gI w 147 2).toInt ∧ (gI w 147 2).toInt ≤ 600 ∧ ∀ i, i < rn w → 0 ≤ (rb w i).toInt
theorem RB_FM {fs : List (Nat × Nat)} {as : List Nat} {w1 : pm_W} (hR : RB w) (h : FM fs as w w1) (q : (147, 2) ∉ fs) (qa : 148 ∉ as) : RB w1 := by
  unfold RB
  rw [rn_FM h q, rb_FM h qa, FM_i h q]
  exact hR
/-- to the end of blanks: then where = next, and c is the byte there -/
theorem F201_0 : ∀ (k : Nat) (w : pm_W), SK w → RB w → 0 ≤ (gI w 147 3).toInt → PS X k 201 0 [.ref 147, pm_dead, pm_dead] [] w r w' → ∃ (k' : Nat) (w1 : pm_W), FM [(147, 3)] [] w w1 ∧ (gI w1 147 3).toInt = (tkS (rb w) (rn w) (rat w) : Nat) ∧ k' < k ∧ isBl (rAt w1 (gI w1 147 3)) = false ∧ PS X (k' + 1) 201 0 [.ref 147, pm_dead, pm_dead] [] w1 r w' := by
  intro k
  induction k with
  | zero => intro w hS hR h0 h; exact (PS_0 h).elim
  | succ k ih =>
    intro w hS hR h0 h
    have hk := h
    have h := U201_0 hS h
    have h := use_p hS h (fun _ _ q => F202 hS q)
    -- a blank: one further
    have go : isBl (rAt w (gI w 147 3)) = true → PS X k 201 26 [.ref 147, pm_dead, pm_dead] [] w r w' → ∃ (k' : Nat) (w1 : pm_W), FM [(147, 3)] [] w w1 ∧ (gI w1 147 3).toInt = (tkS (rb w) (rn w) (rat w) : Nat) ∧ k' < k + 1 ∧ isBl (rAt w1 (gI w1 147 3)) = false ∧ PS X (k' + 1) 201 0 [.ref 147, pm_dead, pm_dead] [] w1 r w' := by
      intro hb q
      have hin : (gI w 147 3).toInt < (gI w 147 2).toInt := by
        by_cases c : (gI w 147 2).toInt ≤ (gI w 147 3).toInt
        · rw [rAt_out c] at hb
          exact absurd hb (by decide +kernel)
        · omega
      cases k with
      | zero => exact (PS_0 q).elim
      | succ k =>
        have q := U201_26 hS q _ rfl
        obtain ⟨w1, e⟩ : ∃ w1, w1 = sI w 147 3 (gI w 147 3 + 1) := ⟨_, rfl⟩
        rw [← e] at q
        obtain ⟨f1, a1⟩ := nx_step hS e hin
        have hS1 := f1.2.2.2
        obtain ⟨k', w2, f2, a2, hk, hb2, h2⟩ := ih w1 hS1 (RB_FM hR f1 (by decide) (by decide)) (by omega) (PS_mono (Nat.le_succ _) q)
        refine ⟨k', w2, FM_trans f1 f2, ?_, by omega, hb2, h2⟩
        rw [a2, rb_FM f1 (by decide), rn_FM f1 (by decide)]
        have ec : rat w1 = rat w + 1 := by unfold rat; omega
        rw [rAt_in h0 hin hR.2.1] at hb
        unfold tkS
        rw [ec, spn_t (n := rn w) (i := rat w) (by unfold rn rat; omega) hb]
    have stay : isBl (rAt w (gI w 147 3)) = false → ∃ (k' : Nat) (w1 : pm_W), FM [(147, 3)] [] w w1 ∧ (gI w1 147 3).toInt = (tkS (rb w) (rn w) (rat w) : Nat) ∧ k' < k + 1 ∧ isBl (rAt w1 (gI w1 147 3)) = false ∧ PS X (k' + 1) 201 0 [.ref 147, pm_dead, pm_dead] [] w1 r w' := by
      intro hb
      refine ⟨k, w, FM_refl hS, ?_, by omega, hb, hk⟩
      unfold tkS
      by_cases c : (gI w 147 2).toInt ≤ (gI w 147 3).toInt
      · rw [spn_n (by unfold rn rat; omega)]
        unfold rat
        omega
      · rw [rAt_in h0 (by omega) hR.2.1] at hb
        rw [spn_f (by unfold rat; exact hb)]
        unfold rat
        omega
    by_cases c1 : rAt w (gI w 147 3) = 10
    · rw [if_pos c1] at h
      refine go ?_ h
      unfold isBl
      rw [decide_eq_true c1]
      rfl
    · rw [if_neg c1] at h
      have h := use_p hS h (fun _ _ q => F202 hS q)
      by_cases c2 : rAt w (gI w 147 3) = 32
      · rw [if_pos c2] at h
        refine go ?_ h
        unfold isBl
        rw [decide_eq_false c1, decide_eq_true c2]
        rfl
      · refine stay ?_
        unfold isBl
        rw [decide_eq_false c1, decide_eq_false c2]
        rfl
end FD
