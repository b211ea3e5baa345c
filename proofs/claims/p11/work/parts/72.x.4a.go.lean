/-! ===== the class's text ===== -/
section GO
variable {X : pm_X} {k : Nat} {w0 w w1 w' : pm_W} {r : Option Value} {p p1 p2 p3 f0 p0 f q : Int32} {bs cs : Nat → Int32} {n i v j m a s T : Nat} {b : Bool} {c : Nat → Int32} {g : Int}
theorem F17_68 {i3 i4 : Int32} (hS : SK w) (h : PS X k 17 68 [.ref a, .int p1, .int p2, .int i3, .int i4] [] w r w') : r = some (.int (-1)) ∧ w' = w := by
  cases k with
  | zero => exact (PS_0 h).elim
  | succ k => exact U17_68 hS h
theorem F17 (hS : SK w) (h : PS X k 17 0 [.ref a, .int p1, .int p2, pm_dead, pm_dead] [] w r w') : r = some (.int (plcF p1 p2 (gI w a 2) (gI w a 3))) ∧ w' = w := by
  have one : ∀ (x cnt : Int32) (lim : Int32) (L : Int), lim.toInt = L → (if p2 = (-1) then (if lim ≤ cnt then (r = some (.int (-1)) ∧ w' = w) else (r = some (.int cnt) ∧ w' = w)) else (if p2 < 0 then (r = some (.int (-1)) ∧ w' = w) else (if cnt ≤ p2 then (r = some (.int (-1)) ∧ w' = w) else (r = some (.int p2) ∧ w' = w)))) → r = some (.int (if p2 = -1 then (if cnt.toInt < L then cnt else -1) else if 0 ≤ p2.toInt ∧ p2.toInt < cnt.toInt then p2 else -1)) ∧ w' = w := by
    intro x cnt lim L hL z
    by_cases e : p2 = -1
    · rw [if_pos e] at z ⊢
      by_cases c : lim ≤ cnt
      · rw [if_pos c] at z
        rw [Int32.le_iff_toInt_le, hL] at c
        rw [if_neg (by omega)]
        exact z
      · rw [if_neg c] at z
        rw [Int32.le_iff_toInt_le, hL] at c
        rw [if_pos (by omega)]
        exact z
    · rw [if_neg e] at z ⊢
      by_cases c : p2 < 0
      · rw [if_pos c] at z
        rw [Int32.lt_iff_toInt_lt, z32] at c
        rw [if_neg (by omega)]
        exact z
      · rw [if_neg c] at z
        rw [Int32.lt_iff_toInt_lt, z32] at c
        by_cases c2 : cnt ≤ p2
        · rw [if_pos c2] at z
          rw [Int32.le_iff_toInt_le] at c2
          rw [if_neg (by omega)]
          exact z
        · rw [if_neg c2] at z
          rw [Int32.le_iff_toInt_le] at c2
          rw [if_pos (by omega)]
          exact z
  cases k with
  | zero => exact (PS_0 h).elim
  | succ k =>
    have h := U17_0 hS h
    have l11 : PS X k 17 11 [.ref a, .int p1, .int p2, pm_dead, pm_dead] [] w r w' → (p1 = 0 ∨ p1 = 1) → r = some (.int (plcF p1 p2 (gI w a 2) (gI w a 3))) ∧ w' = w := by
      intro h hp
      cases k with
      | zero => exact (PS_0 h).elim
      | succ k =>
        have h := U17_11 hS h
        unfold plcF
        by_cases e0 : p1 = 0
        · rw [if_pos e0, if_pos e0] at h
          rw [if_pos e0]
          refine one 0 _ 2 2 two32 ?_
          by_cases e : p2 = -1
          · rw [if_pos e] at h ⊢
            exact h
          · rw [if_neg e] at h ⊢
            by_cases c : p2 < 0
            · rw [if_pos c] at h ⊢
              exact F17_68 hS h
            · rw [if_neg c] at h ⊢
              by_cases c2 : gI w a 2 ≤ p2
              · rw [if_pos c2] at h ⊢
                exact F17_68 hS h
              · rw [if_neg c2] at h ⊢
                exact h
        · have e1 : p1 = 1 := hp.resolve_left e0
          rw [if_neg e0, if_neg e0] at h
          rw [if_neg e0, if_pos e1]
          refine one 0 _ 3 3 three32 ?_
          by_cases e : p2 = -1
          · rw [if_pos e] at h ⊢
            exact h
          · rw [if_neg e] at h ⊢
            by_cases c : p2 < 0
            · rw [if_pos c] at h ⊢
              exact F17_68 hS h
            · rw [if_neg c] at h ⊢
              by_cases c2 : gI w a 3 ≤ p2
              · rw [if_pos c2] at h ⊢
                exact F17_68 hS h
              · rw [if_neg c2] at h ⊢
                exact h
    by_cases e0 : p1 = 0
    · rw [if_pos e0] at h
      exact l11 h (Or.inl e0)
    · rw [if_neg e0] at h
      by_cases e1 : p1 = 1
      · rw [if_pos e1] at h
        exact l11 h (Or.inr e1)
      · rw [if_neg e1] at h
        unfold plcF
        rw [if_neg e0, if_neg e1]
        exact h
theorem q2e (hS : SK w) : gR w 1 0 = 2 ∧ gR w 1 1 = 3 ∧ gQ w 2 = [some 5, some 10] ∧ gQ w 3 = [some 15, some 17, some 19] := ⟨sk_fix hS (by decide +kernel) (by decide), sk_fix hS (by decide +kernel) (by decide), by rw [SK_Q hS]; decide +kernel, by rw [SK_Q hS]; decide +kernel⟩
/-- what is kept: a village -/
theorem F55_v {κ : Nat} (hS : SK w) (h1 : p1 = 0) (h2 : p2.toInt = κ) (hκ : κ ≤ 1) (h : PS X k 55 0 [.ref 1, .int p1, .int p2, .ref 23] [] w r w') : r = none ∧ FM [(1, 2), (5 + 5 * κ, 0), (5 + 5 * κ, 1), (5 + 5 * κ, 2)] [6 + 5 * κ, 7 + 5 * κ, 8 + 5 * κ, 9 + 5 * κ] w w' ∧ (∀ k, vcl w' (5 + 5 * κ) k = vcl w 24 k) ∧ gI w' 1 2 = if (gI w 1 2).toInt < κ + 1 then p2 + 1 else gI w 1 2 := by
  cases k with
  | zero => exact (PS_0 h).elim
  | succ k =>
    have h := U55_0 hS h
    rw [if_pos h1] at h
    obtain ⟨_, r4, w5, q1, q2⟩ := h
    obtain ⟨e1, _, e3, _⟩ := q2e hS
    have eq : qG w (gR w 1 0) p2 = 5 + 5 * κ := by
      unfold qG
      rw [e1, e3, i_nat h2]
      have c : κ = 0 ∨ κ = 1 := by omega
      rcases c with rfl | rfl <;> rfl
    rw [eq] at q1
    have ok : okV (5 + 5 * κ) = true := by
      have c : κ = 0 ∨ κ = 1 := by omega
      rcases c with rfl | rfl <;> decide +kernel
    obtain ⟨a1, a2, a3⟩ := F56 hS ok (by decide +kernel) (by omega) q1
    have S5 := a2.2.2.2
    obtain ⟨h3, h4⟩ := q2 a1 S5 _ rfl
    have f2 : FM [(1, 2), (5 + 5 * κ, 0), (5 + 5 * κ, 1), (5 + 5 * κ, 2)] [6 + 5 * κ, 7 + 5 * κ, 8 + 5 * κ, 9 + 5 * κ] w5 w' := by rw [h4]; exact FM_sI S5 (by simp)
    have n1 : ((1, 2) : Nat × Nat) ∉ [(5 + 5 * κ, 0), (5 + 5 * κ, 1), (5 + 5 * κ, 2)] := by simp; omega
    refine ⟨h3, FM_trans (FM_mono a2 (by simp) (by intro x hx; simp only [List.mem_cons, List.not_mem_nil, or_false] at hx ⊢; omega)) f2, fun k => ?_, ?_⟩
    · rw [← a3 k, vcl_ok f2.2.2.2 ok, vcl_ok S5 ok]
      have G : ∀ x, gI w' (5 + 5 * κ) x = gI w5 (5 + 5 * κ) x := fun x => by rw [h4]; exact gI_sI_ne (by omega)
      have GA : ∀ x, gA w' x = gA w5 x := fun x => by rw [h4, gA_sI]
      rw [G, G, G, GA, GA, GA, GA]
    · have hp : (p2 + 1).toInt = κ + 1 := by rw [zi_add h2 o32 (by omega) (by omega)]
      rw [h4, gI_sI (SK_isF S5 (by decide +kernel)), FM_i a2 n1]
      by_cases c : gI w 1 2 < p2 + 1
      · rw [if_pos c]
        rw [Int32.lt_iff_toInt_lt, hp] at c
        rw [if_pos c]
      · rw [if_neg c]
        rw [Int32.lt_iff_toInt_lt, hp] at c
        rw [if_neg c]
/-- what is kept: a row -/
theorem F55_r {κ : Nat} (hS : SK w) (h1 : p1 ≠ 0) (h2 : p2.toInt = κ) (hκ : κ ≤ 2) (h : PS X k 55 0 [.ref 1, .int p1, .int p2, .ref 23] [] w r w') : r = none ∧ FM [(1, 3), (15 + 2 * κ, 0)] [16 + 2 * κ] w w' ∧ gI w' (15 + 2 * κ) 0 = gI w 29 0 ∧ (∀ q, q < 270 → (gA w' (16 + 2 * κ)).getD q 0 = (gA w 30).getD q 0) ∧ gI w' 1 3 = if (gI w 1 3).toInt < κ + 1 then p2 + 1 else gI w 1 3 := by
  cases k with
  | zero => exact (PS_0 h).elim
  | succ k =>
    have h := U55_0 hS h
    rw [if_neg h1] at h
    obtain ⟨_, r4, w5, q1, q2⟩ := h
    obtain ⟨_, e2, _, e4⟩ := q2e hS
    have eq : qG w (gR w 1 1) p2 = 15 + 2 * κ := by
      unfold qG
      rw [e2, e4, i_nat h2]
      have c : κ = 0 ∨ κ = 1 ∨ κ = 2 := by omega
      rcases c with rfl | rfl | rfl <;> rfl
    rw [eq] at q1
    have ok : okR (15 + 2 * κ) = true := by
      have c : κ = 0 ∨ κ = 1 ∨ κ = 2 := by omega
      rcases c with rfl | rfl | rfl <;> decide +kernel
    obtain ⟨a1, a2, a3, a4⟩ := F57 hS ok (by decide +kernel) (by omega) q1
    have S5 := a2.2.2.2
    obtain ⟨h3, h4⟩ := q2 a1 S5 _ rfl
    have f2 : FM [(1, 3), (15 + 2 * κ, 0)] [16 + 2 * κ] w5 w' := by rw [h4]; exact FM_sI S5 (by simp)
    have n1 : ((1, 3) : Nat × Nat) ∉ [(15 + 2 * κ, 0)] := by simp
    refine ⟨h3, FM_trans (FM_mono a2 (by simp) (by intro x hx; simp only [List.mem_cons, List.not_mem_nil, or_false] at hx ⊢; omega)) f2, ?_, fun q hq => ?_, ?_⟩
    · rw [h4, gI_sI_ne (by omega)]
      exact a3
    · rw [h4, gA_sI, show 16 + 2 * κ = 15 + 2 * κ + 1 by omega]
      exact a4 q hq
    · have hp : (p2 + 1).toInt = κ + 1 := by rw [zi_add h2 o32 (by omega) (by omega)]
      rw [h4, gI_sI (SK_isF S5 (by decide +kernel)), FM_i a2 n1]
      by_cases c : gI w 1 3 < p2 + 1
      · rw [if_pos c]
        rw [Int32.lt_iff_toInt_lt, hp] at c
        rw [if_pos c]
      · rw [if_neg c]
        rw [Int32.lt_iff_toInt_lt, hp] at c
        rw [if_neg c]
/-- fields and arrays that text writes, what is told apart -/
def fl16 : List (Nat × Nat) := [(1, 5), (1, 6), (1, 7), (23, 3), (23, 4), (23, 5), (23, 6), (23, 7), (23, 8), (23, 9), (23, 10), (23, 11), (24, 0), (24, 1), (24, 2), (29, 0)]
theorem plc_b (hp : plcF p1 p2 p f ≠ -1) (h0 : 0 ≤ p.toInt) (h1 : 0 ≤ f.toInt) (h2 : p.toInt ≤ 2) (h3 : f.toInt ≤ 3) : (p1 = 0 ∧ 0 ≤ (plcF p1 p2 p f).toInt ∧ (plcF p1 p2 p f).toInt ≤ 1) ∨ (p1 = 1 ∧ 0 ≤ (plcF p1 p2 p f).toInt ∧ (plcF p1 p2 p f).toInt ≤ 2) := by
  unfold plcF at hp ⊢
  by_cases e0 : p1 = 0
  · rw [if_pos e0] at hp ⊢
    refine Or.inl ⟨e0, ?_⟩
    by_cases e : p2 = -1
    · rw [if_pos e] at hp ⊢
      by_cases c : p.toInt < 2
      · rw [if_pos c]; omega
      · rw [if_neg c] at hp; exact absurd rfl hp
    · rw [if_neg e] at hp ⊢
      by_cases c : 0 ≤ p2.toInt ∧ p2.toInt < p.toInt
      · rw [if_pos c]; omega
      · rw [if_neg c] at hp; exact absurd rfl hp
  · rw [if_neg e0] at hp ⊢
    by_cases e1 : p1 = 1
    · rw [if_pos e1] at hp ⊢
      refine Or.inr ⟨e1, ?_⟩
      by_cases e : p2 = -1
      · rw [if_pos e] at hp ⊢
        by_cases c : f.toInt < 3
        · rw [if_pos c]; omega
        · rw [if_neg c] at hp; exact absurd rfl hp
      · rw [if_neg e] at hp ⊢
        by_cases c : 0 ≤ p2.toInt ∧ p2.toInt < f.toInt
        · rw [if_pos c]; omega
        · rw [if_neg c] at hp; exact absurd rfl hp
    · rw [if_neg e1] at hp
      exact absurd rfl hp
theorem RD_NC : ∀ (N : Nat) {i : Nat} {f p : Int32} {c : Nat → Int32} {g : Int} {o : OC}, RDq b bs n N i f p c g o → (f = 0 → NC b c) → o.2.1 = 0 → NC b o.2.2.2.1
  | 0, _, _, _, _, _, _, q, _, _ => q.elim
  | N + 1, i, f, p, c, g, o, q, hp, ho => by
    rcases q with ⟨h1, e⟩ | ⟨h1, h2, e⟩ | ⟨v, m, h1, h2, e⟩ | ⟨v, m, h1, h2, h3⟩
    · rw [e] at ho ⊢
      exact hp ho
    · rw [e] at ho
      exact absurd (show (1 : Int32) = 0 from ho) (by decide +kernel)
    · rw [e] at ho
      exact absurd (show (1 : Int32) = 0 from ho) (by decide +kernel)
    · refine RD_NC N h3 (fun hz => ?_) ho
      unfold cD
      rw [if_pos hz]
      exact NC_step (hp (fD_0 hz).1) h1 (fD_0 hz).2
theorem NC_0 : NC b (i0 b) := by
  unfold NC
  cases b with
  | true => rw [if_pos rfl]; decide +kernel
  | false => rw [if_neg Bool.false_ne_true]; decide +kernel
theorem F16 (hX : XO X) (hS : SK w) (h0 : 0 ≤ (gI w 1 2).toInt) (h02 : (gI w 1 2).toInt ≤ 2) (h1 : 0 ≤ (gI w 1 3).toInt) (h13 : (gI w 1 3).toInt ≤ 3) (hn : (gI w 1 5).toInt = n) (h6 : n ≤ 600) (hb : b = decide (p1 = 0)) (h : PS X k 16 0 [.ref 0, .int p1, .int p2, pm_dead, pm_dead] [] w r w') : (plcF p1 p2 (gI w 1 2) (gI w 1 3) = -1 ∧ r = some (.int (-2)) ∧ FM fl16 alR w w' ∧ gI w' 1 5 = 0 ∧ gI w' 1 6 = 0 ∧ gI w' 1 7 = -1) ∨ (plcF p1 p2 (gI w 1 2) (gI w 1 3) ≠ -1 ∧ ∃ (N : Nat) (o : OC), RDq b (tb w) n N 0 0 (-1) (i0 b) (-1) o ∧ ((fF b o ≠ 0 ∧ r = some (.int (-1)) ∧ FM fl16 alR w w' ∧ gI w' 1 5 = 0 ∧ gI w' 1 6 = fF b o ∧ gI w' 1 7 = pF b n o) ∨ (fF b o = 0 ∧ r = some (.int (plcF p1 p2 (gI w 1 2) (gI w 1 3))) ∧ gI w' 1 5 = 0 ∧ gI w' 1 6 = 0 ∧ gI w' 1 7 = -1 ∧ ∃ κ : Nat, (plcF p1 p2 (gI w 1 2) (gI w 1 3)).toInt = κ ∧ ((p1 = 0 ∧ κ ≤ 1 ∧ FM ([(1, 2), (5 + 5 * κ, 0), (5 + 5 * κ, 1), (5 + 5 * κ, 2)] ++ fl16) ([6 + 5 * κ, 7 + 5 * κ, 8 + 5 * κ, 9 + 5 * κ] ++ alR) w w' ∧ (∀ k, vcl w' (5 + 5 * κ) k = o.2.2.2.1 k) ∧ gI w' 1 2 = if (gI w 1 2).toInt < κ + 1 then plcF p1 p2 (gI w 1 2) (gI w 1 3) + 1 else gI w 1 2) ∨ (p1 = 1 ∧ κ ≤ 2 ∧ FM ([(1, 3), (15 + 2 * κ, 0)] ++ fl16) ([16 + 2 * κ] ++ alR) w w' ∧ gI w' (15 + 2 * κ) 0 = o.2.2.2.1 0 ∧ (o.2.2.2.1 0).toInt ≤ 30 ∧ 0 ≤ (o.2.2.2.1 0).toInt ∧ (∀ q, q < 9 * (o.2.2.2.1 0).toInt.toNat → (gA w' (16 + 2 * κ)).getD q 0 = o.2.2.2.1 (1 + q)) ∧ gI w' 1 3 = if (gI w 1 3).toInt < κ + 1 then plcF p1 p2 (gI w 1 2) (gI w 1 3) + 1 else gI w 1 3))))) := by
  cases k with
  | zero => exact (PS_0 h).elim
  | succ k =>
    have h := U16_0 hS h _ rfl _ rfl _ rfl
    obtain ⟨w3, e3⟩ : ∃ w3, w3 = sI (sI (sI w 1 5 0) 1 6 0) 1 7 (-1) := ⟨_, rfl⟩
    rw [← e3] at h
    have s1 : FM [(1, 5), (1, 6), (1, 7)] [] w (sI w 1 5 0) := FM_sI hS (by decide)
    have s2 : FM [(1, 5), (1, 6), (1, 7)] [] (sI w 1 5 0) (sI (sI w 1 5 0) 1 6 0) := FM_sI s1.2.2.2 (by decide)
    have s3 : FM [(1, 5), (1, 6), (1, 7)] [] (sI (sI w 1 5 0) 1 6 0) w3 := by rw [e3]; exact FM_sI s2.2.2.2 (by decide)
    have f3 := FM_trans s1 (FM_trans s2 s3)
    have S3 := f3.2.2.2
    have g5 : gI w3 1 5 = 0 := by rw [e3, gI_sI_ne (by decide), gI_sI_ne (by decide), gI_sI (SK_isF hS (by decide +kernel))]
    have g6 : gI w3 1 6 = 0 := by rw [e3, gI_sI_ne (by decide), gI_sI (SK_isF s1.2.2.2 (by decide +kernel))]
    have g7 : gI w3 1 7 = -1 := by rw [e3, gI_sI (SK_isF s2.2.2.2 (by decide +kernel))]
    have f3' : FM fl16 alR w w3 := FM_mono f3 (by decide) (by intro x hx; cases hx)
    have h := use_p S3 h (fun _ _ z => F17 S3 z)
    rw [FM_i f3 (by decide), FM_i f3 (by decide)] at h
    obtain ⟨PL, hPL⟩ : ∃ PL, PL = plcF p1 p2 (gI w 1 2) (gI w 1 3) := ⟨_, rfl⟩
    rw [← hPL] at h ⊢
    by_cases c1 : PL = -1
    · rw [if_pos c1] at h
      obtain ⟨h2, h3⟩ := h
      subst w'
      exact Or.inl ⟨c1, h2, f3', g5, g6, g7⟩
    · rw [if_neg c1] at h
      refine Or.inr ⟨c1, ?_⟩
      have hPb := plc_b (by rw [← hPL]; exact c1) h0 h1 h02 h13
      rw [← hPL] at hPb
      obtain ⟨r7, w8, q1, h⟩ := h
      obtain ⟨a1, a2, N, o, a3, a4, a5, a6⟩ := F18 hX S3 hb hn h6 q1
      have S8 := a2.2.2.2
      have h := h a1 S8
      have tbe : tb w3 = tb w := by
        funext j
        unfold tb
        rw [FM_a f3 (by intro z; cases z)]
      rw [tbe] at a3
      refine ⟨N, o, a3, ?_⟩
      have f8 : FM fl16 alR w w8 := FM_trans f3' (FM_mono a2 (by decide) (by decide))
      rw [a4] at h
      by_cases cf : fF b o = 0
      · rw [if_pos cf] at h
        obtain ⟨r9, w10, q2, q3⟩ := h
        have hCC := a6 cf
        have k5 : gI w8 1 5 = 0 := by rw [FM_i a2 (by decide)]; exact g5
        have k6 : gI w8 1 6 = 0 := by rw [FM_i a2 (by decide)]; exact g6
        have k7 : gI w8 1 7 = -1 := by rw [FM_i a2 (by decide)]; exact g7
        have k2 : gI w8 1 2 = gI w 1 2 := FM_i f8 (by decide)
        have k3 : gI w8 1 3 = gI w 1 3 := FM_i f8 (by decide)
        rcases hPb with ⟨e0, b1, b2⟩ | ⟨e1, b1, b2⟩
        · have hbt : b = true := by rw [hb, decide_eq_true e0]
          rw [hbt, CC_t] at hCC
          obtain ⟨c2, c3, c4, c5⟩ := F55_v (κ := PL.toInt.toNat) S8 e0 (by omega) (by omega) q2
          obtain ⟨d1, d2⟩ := q3 c2 c3.2.2.2
          subst w'
          have nn : ∀ x, x = 5 ∨ x = 6 ∨ x = 7 → ((1, x) : Nat × Nat) ∉ [(1, 2), (5 + 5 * PL.toInt.toNat, 0), (5 + 5 * PL.toInt.toNat, 1), (5 + 5 * PL.toInt.toNat, 2)] := by
            intro x hx
            simp
            omega
          refine Or.inr ⟨cf, d1, by rw [FM_i c3 (nn 5 (by decide))]; exact k5, by rw [FM_i c3 (nn 6 (by decide))]; exact k6, by rw [FM_i c3 (nn 7 (by decide))]; exact k7, PL.toInt.toNat, by omega, Or.inl ⟨e0, by omega, FM_trans (FM_mono f8 (fun p hp => List.mem_append_right _ hp) (fun p hp => List.mem_append_right _ hp)) (FM_mono c3 (fun p hp => List.mem_append_left _ hp) (fun p hp => List.mem_append_left _ hp)), fun k => (c4 k).trans (hCC.1 k), by rw [c5, k2]⟩⟩
        · have e0 : p1 ≠ 0 := by rw [e1]; decide +kernel
          have hbt : b = false := by rw [hb, decide_eq_false e0]
          rw [hbt, CC_f] at hCC
          obtain ⟨c2, c3, c4, c5, c6⟩ := F55_r (κ := PL.toInt.toNat) S8 e0 (by omega) (by omega) q2
          obtain ⟨d1, d2⟩ := q3 c2 c3.2.2.2
          subst w'
          have nn : ∀ x, x = 5 ∨ x = 6 ∨ x = 7 → ((1, x) : Nat × Nat) ∉ [(1, 3), (15 + 2 * PL.toInt.toNat, 0)] := by
            intro x hx
            simp
            omega
          have hac : (o.2.2.2.1 0).toInt ≤ 30 ∧ 0 ≤ (o.2.2.2.1 0).toInt := by
            have q := RD_NC N a3 (fun _ => NC_0) (fF_0 (n := n) cf).1
            rw [hbt] at q
            unfold NC at q
            rw [if_neg Bool.false_ne_true] at q
            exact ⟨q.2, q.1⟩
          refine Or.inr ⟨cf, d1, by rw [FM_i c3 (nn 5 (by decide))]; exact k5, by rw [FM_i c3 (nn 6 (by decide))]; exact k6, by rw [FM_i c3 (nn 7 (by decide))]; exact k7, PL.toInt.toNat, by omega, Or.inr ⟨e1, by omega, FM_trans (FM_mono f8 (fun p hp => List.mem_append_right _ hp) (fun p hp => List.mem_append_right _ hp)) (FM_mono c3 (fun p hp => List.mem_append_left _ hp) (fun p hp => List.mem_append_left _ hp)), c4.trans hCC.1, hac.1, hac.2, fun q hq => (c5 q (by omega)).trans (hCC.2 q hq), by rw [c6, k3]⟩⟩
      · rw [if_neg cf] at h
        have h := h _ rfl _ rfl
        obtain ⟨d1, d2⟩ := h
        have fa : FM fl16 alR w8 (sI w8 1 6 (fF b o)) := FM_sI S8 (by decide)
        have fb : FM fl16 alR (sI w8 1 6 (fF b o)) w' := by rw [d2]; exact FM_sI fa.2.2.2 (by decide)
        refine Or.inl ⟨cf, d1, FM_trans f8 (FM_trans fa fb), ?_, ?_, ?_⟩
        · rw [d2, gI_sI_ne (by decide), gI_sI_ne (by decide), FM_i a2 (by decide)]; exact g5
        · rw [d2, gI_sI_ne (by decide), gI_sI (SK_isF S8 (by decide +kernel))]
        · rw [d2, gI_sI (SK_isF fa.2.2.2 (by decide +kernel)), gI_sI_ne (by decide)]; exact a5
end GO
