/-! ===== the reference's ring ===== -/
section FZ2
variable {X : pm_X} {k : Nat} {w0 w wE w' : pm_W} {r : Option Value} {p p1 p2 p3 f0 p0 f q : Int32} {bs : Nat → Int32} {n i v j m : Nat}
theorem bit_t {S b : Nat} {x y : Int32} (hx : x.toInt = S) (hy : y.toInt = b) (hS : S < 512) (hb : b < 9) : ((x >>> (y &&& 31)) &&& 1) = 1 ↔ S.testBit b = true := by
  have ex := i32_of hx (by omega)
  have ey := i32_of hy (by omega)
  have h : (List.range 512).all (fun S => (List.range 9).all (fun b => decide (((Int32.ofNat S >>> (Int32.ofNat b &&& 31)) &&& 1) = 1) == S.testBit b)) = true := by decide +kernel
  have h1 := List.all_eq_true.mp h S (List.mem_range.mpr hS)
  have h2 := List.all_eq_true.mp h1 b (List.mem_range.mpr hb)
  have h3 := eq_of_beq h2
  rw [ex, ey, ← h3]
  exact decide_eq_true_iff.symm
theorem bit_o {S b : Nat} {x y : Int32} (hx : x.toInt = S) (hy : y.toInt = b) (hS : S < 512) (hb : b < 9) : (x ||| (1 <<< (y &&& 31))).toInt = (S ||| 2 ^ b : Nat) ∧ (S ||| 2 ^ b) < 512 := by
  have ex := i32_of hx (by omega)
  have ey := i32_of hy (by omega)
  have h : (List.range 512).all (fun S => (List.range 9).all (fun b => decide ((Int32.ofNat S ||| (1 <<< (Int32.ofNat b &&& 31))).toInt = ((S ||| 2 ^ b : Nat) : Int)) && decide ((S ||| 2 ^ b) < 512))) = true := by decide +kernel
  have h1 := List.all_eq_true.mp h S (List.mem_range.mpr hS)
  have h2 := List.all_eq_true.mp h1 b (List.mem_range.mpr hb)
  rw [Bool.and_eq_true, decide_eq_true_iff, decide_eq_true_iff] at h2
  rw [ex, ey]
  exact h2
theorem bit_r {S b c : Nat} : (S ||| 2 ^ b).testBit c = (S.testBit c || decide (b = c)) := by
  rw [Nat.testBit_or, Nat.testBit_two_pow]
/-- a fault besides, of two -/
def alF (f p kd q : Int32) : Int32 := if f ≠ 0 ∧ (p.toInt < q.toInt ∨ (p = q ∧ f.toInt ≤ kd.toInt)) then f else kd
def alP (f p kd q : Int32) : Int32 := if f ≠ 0 ∧ (p.toInt < q.toInt ∨ (p = q ∧ f.toInt ≤ kd.toInt)) then p else q
theorem al_0 {kd : Int32} : alF 0 p kd q = kd ∧ alP 0 p kd q = q := by
  unfold alF alP
  rw [if_neg (fun z => z.1 rfl), if_neg (fun z => z.1 rfl)]
  exact ⟨rfl, rfl⟩
theorem al_s {kd : Int32} (hf : f ≠ 0) (h : p.toInt < q.toInt ∨ (p = q ∧ f = 2)) (hk : 2 ≤ kd.toInt) : alF f p kd q = f ∧ alP f p kd q = p := by
  have c : f ≠ 0 ∧ (p.toInt < q.toInt ∨ (p = q ∧ f.toInt ≤ kd.toInt)) := by
    refine ⟨hf, ?_⟩
    rcases h with h | ⟨h, h2⟩
    · exact Or.inl h
    · exact Or.inr ⟨h, by rw [h2, two32]; exact hk⟩
  unfold alF alP
  rw [if_pos c, if_pos c]
  exact ⟨rfl, rfl⟩
theorem al_32 : alF 3 q 2 q = 2 ∧ alP 3 q 2 q = q := by
  have c : ¬ ((3 : Int32) ≠ 0 ∧ (q.toInt < q.toInt ∨ (q = q ∧ (3 : Int32).toInt ≤ (2 : Int32).toInt))) := by
    rintro ⟨_, z | ⟨_, z⟩⟩
    · omega
    · rw [three32, two32] at z; omega
  unfold alF alP
  rw [if_neg c, if_neg c]
  exact ⟨rfl, rfl⟩
/-- what F211 does, said by these -/
theorem F211_al (h : R0 w bs n i) (z : PS X k 211 0 [.ref 147, .int p1, .int p2] [] w r w') : r = none ∧ FM [] [148] w w' ∧ AF w w' ∧ R0 w' bs n i ∧ qF w' = alF (qF w) (qP w) p1 p2 ∧ qP w' = alP (qF w) (qP w) p1 p2 := by
  obtain ⟨s1, s2, s3, s4, s5, s6, s10⟩ := h
  obtain ⟨z1, z2, z3, _, z5⟩ := F211 s1 z
  obtain ⟨g1, g2⟩ := z5 s2
  refine ⟨z1, z2, z3, ⟨z2.2.2.2, by rw [FM_i z2 (by decide)]; exact s2, RTk_FM s3 z2 (by decide) (by decide) (by decide) (by decide) (by decide), (AF_rb z3).trans s4, (rn_FM z2 (by decide)).trans s5, ?_, s10⟩, ?_, ?_⟩
  · unfold RB
    rw [FM_i z2 (by decide), rn_FM z2 (by decide), AF_rb z3]
    exact s6
  · unfold alF
    by_cases c : qF w ≠ 0 ∧ ((qP w).toInt < p2.toInt ∨ (qP w = p2 ∧ (qF w).toInt ≤ p1.toInt))
    · rw [if_pos c, g1 c]
    · rw [if_neg c]; exact (g2 c).1
  · unfold alP
    by_cases c : qF w ≠ 0 ∧ ((qP w).toInt < p2.toInt ∨ (qP w = p2 ∧ (qF w).toInt ≤ p1.toInt))
    · rw [if_pos c, g1 c]
    · rw [if_neg c]; exact (g2 c).2
/-- numbered, whatever fault there is -/
theorem F210_0 {lo hi : Int32} (h : R0 w bs n i) (hk : tkK bs n i = 2) (z : PS X k 210 0 [.ref 147, .int lo, .int hi, pm_dead] [] w r w') : FM [(147, 3), (147, 4), (147, 5), (147, 6), (147, 7)] [148] w w' ∧ AF w w' ∧ R0 w' bs n (tkN bs n i) ∧ ∃ x : Int32, r = some (.int x) ∧ ((lo.toInt ≤ tkV bs n i ∧ tkV bs n i ≤ hi.toInt) → x.toInt = tkV bs n i ∧ qF w' = qF w ∧ qP w' = qP w) ∧ (¬ (lo.toInt ≤ tkV bs n i ∧ tkV bs n i ≤ hi.toInt) → x = lo ∧ qF w' = alF (qF w) (qP w) 2 (pl bs n i) ∧ qP w' = alP (qF w) (qP w) 2 (pl bs n i)) := by
  cases k with
  | zero => exact (PS_0 z).elim
  | succ k =>
    have hh := h
    obtain ⟨hS, h8, hT, hb, hn, hR, hi2⟩ := h
    have z := U210_0 hS z
    rw [if_pos h8] at z
    have c : gI w 147 5 = 1 := by rw [hT.1, rTk_1]; exact hk
    rw [if_pos c] at z
    have hx := hT.2.2.2.1 hk
    have epl := R0_pl hh
    have z := use_p hS z (fun _ _ y => F199 hS y)
    have ein : isI (gI w 147 6) lo hi = true ↔ (lo.toInt ≤ tkV bs n i ∧ tkV bs n i ≤ hi.toInt) := by
      unfold isI
      rw [Bool.and_eq_true, decide_eq_true_iff, decide_eq_true_iff, hx]
    by_cases ci : b2i (isI (gI w 147 6) lo hi) = 0
    · rw [if_pos ci] at z
      rw [b2i_0] at ci
      obtain ⟨r1, w1, q1, q2⟩ := z
      rw [epl] at q1
      obtain ⟨e1, f1, a1, h1, g1, g2⟩ := F211_al hh q1
      obtain ⟨r3, w3, q3, q4⟩ := q2 e1 f1.2.2.2
      obtain ⟨z1, z2, z3⟩ := R0_next h1 (by rw [hk]; decide) q3
      have z := q4 z1 z2.2.2.2
      have z := use_p z2.2.2.2 z (fun _ _ y => F199 z2.2.2.2 y)
      rw [ci, if_pos (by decide +kernel)] at z
      rw [z.2]
      have g : gA w3 148 = gA w1 148 := FM_a z2 (by decide)
      refine ⟨FM_trans (FM_mono f1 (by decide) (by decide)) (FM_mono z2 (by decide) (by decide)), AF_trans a1 (AF_eq g), z3, lo, z.1, fun y => ?_, fun _ => ⟨rfl, ?_, ?_⟩⟩
      · rw [ein.mpr y] at ci
        exact Bool.noConfusion ci
      · rw [← g1]; unfold qF; rw [g]
      · rw [← g2]; unfold qP; rw [g]
    · rw [if_neg ci] at z
      rw [b2i_0, Bool.not_eq_false] at ci
      obtain ⟨r3, w3, q3, q4⟩ := z
      obtain ⟨z1, z2, z3⟩ := R0_next hh (by rw [hk]; decide) q3
      have z := q4 z1 z2.2.2.2
      have z := use_p z2.2.2.2 z (fun _ _ y => F199 z2.2.2.2 y)
      rw [ci, if_neg (by decide +kernel)] at z
      rw [z.2]
      have g : gA w3 148 = gA w 148 := FM_a z2 (by decide)
      refine ⟨FM_mono z2 (by decide) (by decide), AF_eq g, z3, _, z.1, fun _ => ⟨hx, ?_, ?_⟩, fun y => absurd (ein.mp ci) y⟩
      · unfold qF; rw [g]
      · unfold qP; rw [g]
end FZ2
