/-! ===== long fields; allParts, isBetter ===== -/
section JFA
variable {X : pm_X} {k k2 : Nat} {w0 w w1 w2 w3 w4 w5 wj w' : pm_W} {r r2 q0 q1 q2 : Option Value} {p1 p2 p3 p4 p5 i1 i2 i3 i4 i5 i6 i7 i8 z z1 z2 so : Int32} {i v j m u P t s b Q I J K a T p W N κ bm n : Nat} {l x y : Int64} {e g ch ch' cst cst' : Int} {f : Nat → Int}
theorem gV_sL_ne {a b n m : Nat} (h : ¬ (a = b ∧ n = m)) : gV (sL w a n x) b m = gV w b m := by
  unfold sL
  split
  · exact gV_sV_ne h
  · rfl
theorem gA_sL : gA (sL w a n x) b = gA w b := by
  unfold sL
  split
  · exact gA_sV
  · rfl
theorem gQ_sL : gQ (sL w a n x) b = gQ w b := by
  unfold sL
  split
  · exact gQ_sV
  · rfl
theorem FM_sL {fs : List (Nat × Nat)} {as : List Nat} (hS : SK w) (h : (a, n) ∈ fs) : FM fs as w (sL w a n x) := ⟨fun b m q => gV_sL_ne (fun e => q (by rw [← e.1, ← e.2]; exact h)), fun b _ => gA_sL, fun b => gQ_sL, SK_sL hS⟩
theorem FM_l {fs : List (Nat × Nat)} {as : List Nat} (h : FM fs as w w1) (q : (a, n) ∉ fs) : gL w1 a n = gL w a n := by unfold gL; rw [h.1 a n q]
theorem gL_sI_ne {a b n m : Nat} {x : Int32} (h : ¬ (a = b ∧ n = m)) : gL (sI w a n x) b m = gL w b m := by unfold gL; rw [gV_sI_ne h]
theorem gI_sL_ne {a b n m : Nat} (h : ¬ (a = b ∧ n = m)) : gI (sL w a n x) b m = gI w b m := by unfold gI; rw [gV_sL_ne h]
def sk_l2 (a n : Nat) : Bool := match sk0[a]? with
  | some (.inr (_, fs)) => Nat.beq (sk_k (fs.getD n .null)) 2
  | _ => false
theorem SK_isL (hS : SK w) (h : sk_l2 a n = true) : ∃ z, gV w a n = .long z := by
  unfold sk_l2 at h
  cases hw : w[a]? with
  | none =>
    have e : sk0[a]? = none := by rw [← show w.map sk_e = sk0 from hS, List.getElem?_map, hw]; rfl
    rw [e] at h
    cases h
  | some q =>
    rw [SK_at hS hw] at h
    cases q with
    | inl q =>
      obtain ⟨t, q⟩ := q
      rcases q with q | q | q <;> cases h
    | inr q =>
      obtain ⟨ci, fs⟩ := q
      have h : Nat.beq (sk_k ((sk_f ci 0 fs).getD n .null)) 2 = true := h
      have h := Nat.eq_of_beq_eq_true h
      rw [List.getD_eq_getElem?_getD, sk_fget] at h
      cases hv : fs[n]? with
      | none =>
        rw [hv] at h
        cases h
      | some v =>
        rw [hv] at h
        have h : sk_k (sk_v ci (0 + n) v) = 2 := h
        rw [sk_vk] at h
        refine ⟨vL v, ?_⟩
        rw [gV_of hw hv]
        cases v <;> first | rfl | cases h
theorem gL_sL (h : ∃ z, gV w a n = .long z) : gL (sL w a n x) a n = x := by
  obtain ⟨z, hz⟩ := h
  obtain ⟨ci, fs, hw, hf⟩ := gV_inv hz (by intro q; cases q)
  unfold gL sL
  rw [hz]
  show vL (gV (sV w a n (.long x)) a n) = x
  unfold sV
  rw [hw]
  show vL (gV (w.set a (.inr (ci, fs.set n (.long x)))) a n) = x
  rw [gV_of (wk_eq hw) (by
    obtain ⟨hl, _⟩ := List.getElem?_eq_some_iff.mp hf
    exact List.getElem?_set_self hl)]
  rfl
/-! long sums -/
theorem lg_mul (hx : x.toInt = e) (hy : y.toInt = g) (h0 : 0 ≤ e * g) (h1 : e * g ≤ 1000000000000) : (x * y).toInt = e * g := by
  rw [Int64.toInt_mul, hx, hy]
  exact Int.bmod_eq_of_le (by omega) (by omega)
theorem cmp_0 : lg_cmp x y = 0 ↔ x.toInt = y.toInt := by
  unfold lg_cmp
  by_cases c : x > y
  · rw [if_pos c]
    have := Int64.lt_iff_toInt_lt.mp c
    exact ⟨fun q => absurd q (by decide), fun q => by omega⟩
  · rw [if_neg c]
    by_cases c2 : x = y
    · rw [if_pos c2, c2]
      exact ⟨fun _ => rfl, fun _ => rfl⟩
    · rw [if_neg c2]
      exact ⟨fun q => absurd q (by decide), fun q => absurd (Int64.toInt_inj.mp q) c2⟩
theorem cmp_g : 0 < lg_cmp x y ↔ y.toInt < x.toInt := by
  unfold lg_cmp
  by_cases c : x > y
  · rw [if_pos c]
    exact ⟨fun _ => Int64.lt_iff_toInt_lt.mp c, fun _ => by decide⟩
  · rw [if_neg c]
    have c' : ¬ y.toInt < x.toInt := fun q => c (Int64.lt_iff_toInt_lt.mpr q)
    by_cases c2 : x = y
    · rw [if_pos c2]
      exact ⟨fun q => absurd q (by decide), fun q => absurd q c'⟩
    · rw [if_neg c2]
      exact ⟨fun q => absurd q (by decide), fun q => absurd q c'⟩
theorem cmp_l : lg_cmp x y ≤ 0 ↔ x.toInt ≤ y.toInt := by
  have q := cmp_g (x := x) (y := y)
  rw [Int32.lt_iff_toInt_lt] at q
  rw [Int32.le_iff_toInt_le]
  omega
theorem pow100 : ∀ t, t ≤ 6 → (100 : Int) ^ t ≤ 1000000000000 ∧ 0 < (100 : Int) ^ t := by
  intro t ht
  have c : t = 0 ∨ t = 1 ∨ t = 2 ∨ t = 3 ∨ t = 4 ∨ t = 5 ∨ t = 6 := by omega
  rcases c with rfl | rfl | rfl | rfl | rfl | rfl | rfl <;> decide
theorem l1_64 : (1 : Int64).toInt = 1 := by decide +kernel
theorem l100_64 : (100 : Int64).toInt = 100 := by decide +kernel
theorem F138 (hS : SK w) (h1 : p1.toInt = t) (ht : t ≤ 6) (h : PS X k 138 0 [.int p1, pm_dead, pm_dead, pm_dead] [] w r w') : ∃ l : Int64, l.toInt = (100 : Int) ^ t ∧ r = some (.long l) ∧ w' = w := by
  have lp : ∀ (k j : Nat) (l1 : Int64) (i3 : Int32), i3.toInt = j → j ≤ t → l1.toInt = (100 : Int) ^ j → PS X k 138 4 [.int p1, .long l1, pm_dead, .int i3] [] w r w' → ∃ l : Int64, l.toInt = (100 : Int) ^ t ∧ r = some (.long l) ∧ w' = w := by
    intro k
    induction k with
    | zero => intro j l1 i3 _ _ _ h; exact (PS_0 h).elim
    | succ k ih =>
      intro j l1 i3 h3 hj hl h
      have h := U138_4 hS h
      by_cases c : p1 ≤ i3
      · rw [if_pos c] at h
        rw [Int32.le_iff_toInt_le, h1, h3] at c
        exact ⟨l1, by rw [hl, show j = t by omega], h.1, h.2⟩
      · rw [if_neg c] at h
        rw [Int32.le_iff_toInt_le, h1, h3] at c
        have q := pow100 (j + 1) (by omega)
        rw [Int.pow_succ] at q
        refine ih (j + 1) _ _ (by rw [zi_inc (n := 40) (by omega) (by omega), h3]; rfl) (by omega) ?_ h
        rw [Int.pow_succ]
        exact lg_mul hl l100_64 (by omega) (by omega)
  cases k with
  | zero => exact (PS_0 h).elim
  | succ k => exact lp k 0 1 0 z32 (Nat.zero_le _) l1_64 (U138_0 hS h)
/-- the measure: cheap, fast or none -/
def GSv (so : Int32) (cst ch : Int) (m : Nat) : Int := if so = 1 then -cst else if so = 2 then ch * (100 : Int) ^ (6 - m) else 0
theorem F137 (hS : SK w) (h1 : p1.toInt = m) (hm : 2 ≤ m ∧ m ≤ 6) (h2 : p2.toInt = cst) (h3 : l.toInt = ch) (g1 : gI w 55 1 = so) (g6 : (gI w 55 6).toInt = bm) (hb : 2 ≤ bm ∧ bm ≤ 6) (g7 : (gI w 55 7).toInt = cst') (g8 : (gL w 55 8).toInt = ch') (hc : 0 ≤ ch ∧ ch * (100 : Int) ^ (6 - m) ≤ 1000000000000) (hc' : 0 ≤ ch' ∧ ch' * (100 : Int) ^ (6 - bm) ≤ 1000000000000) (h : PS X k 137 0 [.ref 55, .int p1, .int p2, .long l, pm_dead, pm_dead, pm_dead, pm_dead, pm_dead] [] w r w') : w' = w ∧ ∃ bb : Bool, r = some (.int (b2i bb)) ∧ (bb = true ↔ GSv so cst' ch' bm < GSv so cst ch m ∨ (GSv so cst ch m = GSv so cst' ch' bm ∧ m < bm)) := by
  have e6 : (6 : Int32).toInt = 6 := by decide +kernel
  cases k with
  | zero => exact (PS_0 h).elim
  | succ k =>
    have h := U137_0 hS h
    rw [g1] at h
    have len : (GSv so cst ch m = GSv so cst' ch' bm) → (if (gI w 55 6) ≤ p1 then (r = some (.int 0) ∧ w' = w) else (r = some (.int 1) ∧ w' = w)) → w' = w ∧ ∃ bb : Bool, r = some (.int (b2i bb)) ∧ (bb = true ↔ GSv so cst' ch' bm < GSv so cst ch m ∨ (GSv so cst ch m = GSv so cst' ch' bm ∧ m < bm)) := by
      intro eg hh
      by_cases c : gI w 55 6 ≤ p1
      · rw [if_pos c] at hh
        rw [Int32.le_iff_toInt_le, g6, h1] at c
        exact ⟨hh.2, false, hh.1, ⟨fun q => Bool.noConfusion q, fun q => by omega⟩⟩
      · rw [if_neg c] at hh
        rw [Int32.le_iff_toInt_le, g6, h1] at c
        exact ⟨hh.2, true, hh.1, ⟨fun _ => Or.inr ⟨eg, by omega⟩, fun _ => rfl⟩⟩
    by_cases c1 : so = 1
    · rw [if_pos c1] at h
      have n2 : ¬ so = 2 := by rw [c1]; decide
      have g : ∀ c d m, GSv so c d m = -c := fun c d m => if_pos c1
      by_cases c2 : p2 = gI w 55 7
      · rw [if_pos c2, if_neg n2] at h
        exact len (by rw [g, g, ← h2, c2, g7]) h
      · rw [if_neg c2] at h
        have ne : cst ≠ cst' := fun e => c2 (Int32.toInt_inj.mp (by rw [h2, g7, e]))
        rw [g, g]
        by_cases c3 : gI w 55 7 ≤ p2
        · rw [if_pos c3] at h
          rw [Int32.le_iff_toInt_le, g7, h2] at c3
          exact ⟨h.2, false, h.1, ⟨fun q => Bool.noConfusion q, fun q => by omega⟩⟩
        · rw [if_neg c3] at h
          rw [Int32.le_iff_toInt_le, g7, h2] at c3
          exact ⟨h.2, true, h.1, ⟨fun _ => Or.inl (by omega), fun _ => rfl⟩⟩
    · rw [if_neg c1] at h
      by_cases c2 : so = 2
      · rw [if_pos c2] at h
        have g : ∀ c d m, GSv so c d m = d * (100 : Int) ^ (6 - m) := fun c d m => by unfold GSv; rw [if_neg c1, if_pos c2]
        obtain ⟨q1, wq, y1, h⟩ := h
        obtain ⟨x3, v3, a1, a2⟩ := F138 (t := 6 - m) hS (by rw [zi_sub e6 h1 (by omega) (by omega)]; omega) (by omega) y1
        have h := h _ a1 (by rw [a2]; exact hS)
        rw [a2] at h
        obtain ⟨q4, w5, y4, h⟩ := h
        obtain ⟨x6, v6, b1, b2⟩ := F138 (t := 6 - bm) hS (by rw [zi_sub e6 g6 (by omega) (by omega)]; omega) (by omega) y4
        have h := h _ b1 (by rw [b2]; exact hS)
        rw [b2] at h
        have p1' := (pow100 (6 - m) (by omega)).2
        have p2' := (pow100 (6 - bm) (by omega)).2
        have m1 := lg_mul h3 v3 (Int.mul_nonneg hc.1 (Int.le_of_lt p1')) hc.2
        have m2 := lg_mul g8 v6 (Int.mul_nonneg hc'.1 (Int.le_of_lt p2')) hc'.2
        by_cases c3 : lg_cmp (l * x3) (gL w 55 8 * x6) = 0
        · rw [if_pos c3] at h
          rw [cmp_0, m1, m2] at c3
          exact len (by rw [g, g, c3]) h
        · rw [if_neg c3] at h
          rw [cmp_0, m1, m2] at c3
          rw [g, g]
          by_cases c4 : lg_cmp (l * x3) (gL w 55 8 * x6) ≤ 0
          · rw [if_pos c4] at h
            rw [cmp_l, m1, m2] at c4
            exact ⟨h.2, false, h.1, ⟨fun q => Bool.noConfusion q, fun q => by omega⟩⟩
          · rw [if_neg c4] at h
            rw [cmp_l, m1, m2] at c4
            exact ⟨h.2, true, h.1, ⟨fun _ => Or.inl (by omega), fun _ => rfl⟩⟩
      · rw [if_neg c2] at h
        exact len (by unfold GSv; rw [if_neg c1, if_neg c2, if_neg c1, if_neg c2]) h
end JFA
