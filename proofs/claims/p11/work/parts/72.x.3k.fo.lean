section FO
variable {X : pm_X} {k : Nat} {w0 w w' : pm_W} {r : Option Value} {p p1 p2 p3 : Int32} {bs : Nat → Int32} {n i : Nat}
/-- the class's verb at a token: -1 none -/
def vbT (b : Bool) (bs : Nat → Int32) (n i : Nat) : Int := if tkK bs n i = 1 then vbR b (wdC bs (tkS bs n i) (tkN bs n i)) else -1
theorem vbR_b {b : Bool} {c : Int32} : vbR b c = -1 ∨ (0 ≤ vbR b c ∧ vbR b c ≤ 12 ∧ (b = true → 6 ≤ vbR b c) ∧ (b = false → vbR b c ≤ 5)) := by
  unfold vbR
  cases b with
  | true =>
    rw [if_pos rfl]
    by_cases c1 : 1 ≤ c.toInt ∧ c.toInt ≤ 7
    · rw [if_pos c1]
      exact Or.inr ⟨by omega, by omega, fun _ => by omega, fun z => Bool.noConfusion z⟩
    · rw [if_neg c1]
      exact Or.inl rfl
  | false =>
    rw [if_neg Bool.false_ne_true]
    by_cases c1 : 11 ≤ c.toInt ∧ c.toInt ≤ 16
    · rw [if_pos c1]
      exact Or.inr ⟨by omega, by omega, fun z => Bool.noConfusion z, fun _ => by omega⟩
    · rw [if_neg c1]
      exact Or.inl rfl
/-- the class reads: its token is that from i on; the fault f at p -/
def CS (w : pm_W) (bs : Nat → Int32) (n i : Nat) (f p : Int32) : Prop := SK w ∧ CTk w bs n i ∧ cb w = bs ∧ cn w = n ∧ gI w 23 10 = f ∧ gI w 23 11 = p ∧ HL w ∧ gR w 23 3 = 4 ∧ n ≤ 600 ∧ i ≤ n
/-- a sentence of the class -/
theorem F29 {f : Int32} {b : Bool} (hX : XO X) (h : CS w bs n i f p) (hb : b = decide (p1 = 0)) (q : PS X k 29 0 [.ref 23, .int p1, pm_dead, pm_dead, pm_dead] [] w r w') : (vbT b bs n i = -1 ∧ r = some (.int 0) ∧ w' = w) ∨ ∃ (v : Nat) (pv : Int32), vbT b bs n i = v ∧ v ≤ 12 ∧ (b = true → 6 ≤ v) ∧ (b = false → v ≤ 5) ∧ tkK bs n i = 1 ∧ pv.toInt = v ∧ ∃ m, (FI bs n i v m ∧ r = some (.int 0) ∧ RI w w' bs n i v (ntF (tooM w v) 3 f) (ntP (tooM w v) (pl bs n i) f p) m) ∨ (OK bs n i v m ∧ r = some (.int 1) ∧ ∃ (w1 w2 : pm_W), RI w w1 bs n i v (ntF (tooM w v) 3 f) (ntP (tooM w v) (pl bs n i) f p) m ∧ FM [(23, 5), (23, 6), (23, 7), (23, 8)] [] w1 w2 ∧ CTk w2 bs n (tP bs n i (m + 2)) ∧ ((gI w2 23 10 ≠ 0 ∧ w' = w2) ∨ (gI w2 23 10 = 0 ∧ K49 w2 w' v m pv))) := by
  obtain ⟨hS, hT, hc, hn, hf, hp, hH, h4, n6, hi⟩ := h
  cases k with
  | zero => exact (PS_0 q).elim
  | succ k =>
    obtain ⟨r1, w1, q1, q2⟩ := U29_0 hS q
    obtain ⟨e1, y, e2, ey⟩ := F30 hX hS (by rw [hc]; exact hT) hn hi q1
    subst w1
    rw [hc, ← hb] at ey
    have ey : y.toInt = vbT b bs n i := ey
    have q := q2 y e2 hS
    have m1 : ((-1 : Int32)).toInt = -1 := by decide +kernel
    by_cases c1 : y = -1
    · rw [if_pos c1] at q
      refine Or.inl ⟨?_, q.1, q.2⟩
      rw [← ey, c1]
      exact m1
    · rw [if_neg c1] at q
      have hk1 : tkK bs n i = 1 := by
        by_cases c : tkK bs n i = 1
        · exact c
        · exfalso
          unfold vbT at ey
          rw [if_neg c] at ey
          exact c1 (Int32.toInt_inj.mp (by rw [ey, m1]))
      have hvb := vbR_b (b := b) (c := wdC bs (tkS bs n i) (tkN bs n i))
      have evb : vbT b bs n i = vbR b (wdC bs (tkS bs n i) (tkN bs n i)) := by
        unfold vbT
        rw [if_pos hk1]
      rw [← evb, ← ey] at hvb
      have hvb : 0 ≤ y.toInt ∧ y.toInt ≤ 12 ∧ (b = true → 6 ≤ y.toInt) ∧ (b = false → y.toInt ≤ 5) := by
        rcases hvb with z | z
        · exact absurd (Int32.toInt_inj.mp (by rw [z, m1])) c1
        · exact z
      obtain ⟨v, hv⟩ : ∃ v : Nat, v = y.toInt.toNat := ⟨_, rfl⟩
      have hyv : y.toInt = v := by omega
      refine Or.inr ⟨v, y, by rw [← ey]; exact hyv, by omega, fun z => by have := hvb.2.2.1 z; omega, fun z => by have := hvb.2.2.2 z; omega, hk1, hyv, ?_⟩
      have q := use_p hS q (fun _ _ z => F44 hS z)
      rw [hyv] at q
      have hpl : gI w 23 7 = pl bs n i := i32_of hT.2.1 (by have := (tkN_n (bs := bs) hi).1; omega)
      -- from label 30 on
      have s30 : ∀ w3 : pm_W, FM fl6 [31] w w3 → CTk w3 bs n i → gI w3 23 10 = ntF (tooM w v) 3 f → gI w3 23 11 = ntP (tooM w v) (pl bs n i) f p → PS X k 29 30 [.ref 23, .int p1, .int y, pm_dead, pm_dead] [] w3 r w' → ∃ m, (FI bs n i v m ∧ r = some (.int 0) ∧ RI w w' bs n i v (ntF (tooM w v) 3 f) (ntP (tooM w v) (pl bs n i) f p) m) ∨ (OK bs n i v m ∧ r = some (.int 1) ∧ ∃ (w1 w2 : pm_W), RI w w1 bs n i v (ntF (tooM w v) 3 f) (ntP (tooM w v) (pl bs n i) f p) m ∧ FM [(23, 5), (23, 6), (23, 7), (23, 8)] [] w1 w2 ∧ CTk w2 bs n (tP bs n i (m + 2)) ∧ ((gI w2 23 10 ≠ 0 ∧ w' = w2) ∨ (gI w2 23 10 = 0 ∧ K49 w2 w' v m y))) := by
        intro w3 f3 hT3 g1 g2 z
        cases k with
        | zero => exact (PS_0 z).elim
        | succ k =>
          have hS3 := f3.2.2.2
          obtain ⟨r4, w4, z1, z2⟩ := U29_30 hS3 z
          have hcw : cb w3 = bs := (cb_FM f3 (by decide) (by rw [h4]; decide)).trans hc
          have hnw : cn w3 = n := (cn_FM f3 (by decide)).trans hn
          obtain ⟨u1, u2, u3⟩ := CT_next hS3 hcw hnw hT3 z1
          have z := z2 u1 u2.2.2.2
          refine F29_n hX hc hn (by rw [h4]; decide) n6 hi hyv (by omega) hk1 hH ⟨FM_trans f3 (FM_mono u2 (by decide) (by decide)), u3, by rw [FM_i u2 (by decide)]; exact g1, by rw [FM_i u2 (by decide)]; exact g2, fun t ht => absurd ht (Nat.not_lt_zero t)⟩ z32 z32 z
      cases ctm : tooM w v with
      | false =>
        rw [ctm, if_pos (by decide +kernel)] at q
        rw [ctm] at s30
        exact s30 w (FM_refl hS) hT hf hp q
      | true =>
        rw [ctm, if_neg (by decide +kernel)] at q
        rw [ctm] at s30
        obtain ⟨r7, w8, q7, q8⟩ := q
        obtain ⟨u1, u2, u3, u4⟩ := F46 hS q7
        have q := q8 u1 u2.2.2.2
        refine s30 w8 (FM_mono u2 (by decide) (by decide)) (CT_FM hT u2 (by decide) (by decide) (by decide) (by decide)) ?_ ?_ q
        · rw [u3, ntF_t, hf]
        · rw [u4, ntP_t, hf, hp, hpl]
end FO
