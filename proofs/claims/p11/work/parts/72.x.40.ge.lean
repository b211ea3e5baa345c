section GE
variable {X : pm_X} {k : Nat} {w0 w wE w' : pm_W} {r : Option Value} {p p1 p2 p3 f0 p0 f q : Int32} {bs : Nat → Int32} {n i v j m : Nat}
/-- one act too many -/
def tm30 (w : pm_W) : Bool := decide (30 ≤ (rcl w 0).toInt)
/-- a row's line -/
theorem F215 (hc0 : f = 0 → 0 ≤ (rcl w 0).toInt) (h : RS w bs n i f p) (z : PS X k 215 0 [.ref 147, pm_dead, pm_dead, pm_dead] [] w r w') : r = none ∧ ((vbT false bs n i = -1 ∧ FM rl7 [148, 150, 151] w w' ∧ AF w w' ∧ BK w' bs n i) ∨ ∃ v : Nat, vbT false bs n i = v ∧ v ≤ 5 ∧ tkK bs n i = 1 ∧ RL w w' bs n i (ntF (tm30 w) 3 f) (ntP (tm30 w) (pl bs n i) f p) v) := by
  have hS : SK w := h.1
  have hpl := RS_pl h
  have n6 := RS_n6 h
  have hR0 := RS_R0 h
  have hf : qF w = f := h.2.2.2.2.2.2.1
  have hp : qP w = p := h.2.2.2.2.2.2.2.1
  have hat := h.2.2.2.2.2.2.2.2.1
  have hi := h.2.2.2.2.2.2.2.2.2
  have e30 : (30 : Int32).toInt = 30 := by decide +kernel
  cases k with
  | zero => exact (PS_0 z).elim
  | succ k =>
    obtain ⟨_, z⟩ := U215_0 hS z
    rw [hpl, aG_n (m := 0) z32] at z
    have e0 : (gA w 150).getD 0 0 = rcl w 0 := rfl
    rw [e0] at z
    have s22 : ∃ (w1 : pm_W) (k1 : Nat), FM [] [148] w w1 ∧ AF w w1 ∧ R0 w1 bs n i ∧ qF w1 = ntF (tm30 w) 3 f ∧ qP w1 = ntP (tm30 w) (pl bs n i) f p ∧ PS X k1 215 22 [.ref 147, .int (pl bs n i), pm_dead, pm_dead] [] w1 r w' := by
      unfold tm30
      by_cases c : rcl w 0 < 30
      · rw [if_pos c] at z
        rw [Int32.lt_iff_toInt_lt, e30] at c
        rw [decide_eq_false (by omega)]
        exact ⟨w, _, FM_refl hS, AF_refl, hR0, hf, hp, z⟩
      · rw [if_neg c] at z
        rw [Int32.lt_iff_toInt_lt, e30] at c
        obtain ⟨r1, w1, q1, q2⟩ := z
        obtain ⟨a1, a2, a3, a4, a5, a6⟩ := F211_al hR0 q1
        rw [hf, hp] at a5 a6
        rw [decide_eq_true (by omega), ntF_t, ntP_t]
        refine ⟨w1, _, a2, a3, a4, ?_, ?_, q2 a1 a2.2.2.2⟩
        · rw [a5]
          by_cases cf : f = 0
          · rw [if_pos cf, cf]; exact al_0.1
          · rw [if_neg cf]
            exact (al_s cf (by rw [pl_i n6 hi]; exact hat cf) (by rw [three32]; decide)).1
        · rw [a6]
          by_cases cf : f = 0
          · rw [if_pos cf, cf]; exact al_0.2
          · rw [if_neg cf]
            exact (al_s cf (by rw [pl_i n6 hi]; exact hat cf) (by rw [three32]; decide)).2
    obtain ⟨w1, k1, f1, a1, hR1, qF1, qP1, z⟩ := s22
    have hz30 : ntF (tm30 w) 3 f = 0 → (rcl w 0).toInt < 30 := by
      intro hz
      by_cases c : 30 ≤ (rcl w 0).toInt
      · exfalso
        unfold tm30 at hz
        rw [decide_eq_true c, ntF_t] at hz
        by_cases cf : f = 0
        · rw [if_pos cf] at hz; exact absurd hz (by decide +kernel)
        · rw [if_neg cf] at hz; exact cf hz
      · omega
    cases k1 with
    | zero => exact (PS_0 z).elim
    | succ k1 =>
      obtain ⟨r2, w2, q1, q2⟩ := U215_22 f1.2.2.2 z
      have e11 : (11 : Int32).toInt = 11 := by decide +kernel
      have e16 : (16 : Int32).toInt = 16 := by decide +kernel
      rcases F208_0 hR1 q1 with ⟨c1, c2, c3, c4, f2, hR2, er⟩ | ⟨c1, f2, a2, hB, er⟩
      · rw [e11] at c3
        rw [e16] at c4
        obtain ⟨c, hc⟩ : ∃ c, c = wdC bs (tkS bs n i) (tkN bs n i) := ⟨_, rfl⟩
        rw [← hc] at c2 c3 c4 er
        have z := q2 c er f2.2.2.2
        have evb : vbT false bs n i = c.toInt - 11 := by
          unfold vbT vbR
          rw [if_pos c1, if_neg Bool.false_ne_true, ← hc, if_pos ⟨c3, c4⟩]
        obtain ⟨k3, w3, u', f3, l3, ec3, z⟩ := L33 _ w2 0 0 f2.2.2.2 (len151 f2.2.2.2) z32 (by omega) z
        have he : ∀ t, t < 8 → ecl w3 t = -1 := fun t ht => by rw [ec3 t ht, if_pos (Nat.zero_le t)]
        have g2 : gA w2 148 = gA w1 148 := FM_a f2 (by decide)
        have hRS2 : RS w2 bs n (tP bs n i 1) (ntF (tm30 w) 3 f) (ntP (tm30 w) (pl bs n i) f p) := by
          refine R0_RS hR2 (by unfold qF; rw [g2]; exact qF1) (by unfold qP; rw [g2]; exact qP1) (fun hz => Or.inl ?_)
          have b := tkN_b (bs := bs) (n := n) (i := i) (by rw [c1]; decide)
          have s := tkS_b (bs := bs) (n := n) (i := tkN bs n i)
          have lt := ntP_lt (b := tm30 w) (kd := 3) (f := f) (p := p) (q := pl bs n i) (m := tkS bs n i) (m' := tkS bs n i + 1) (pl_i n6 hi) (by omega) (fun hz3 => by
            rcases hat hz3 with y | ⟨y, _⟩
            · omega
            · rw [y, pl_i n6 hi]; omega) hz
          show (ntP (tm30 w) (pl bs n i) f p).toInt < (tkS bs n (tkN bs n i) : Nat)
          omega
        have hRS3 := RS_wr hRS2 (FM_mono f3 (by decide) (by decide) : FM [] [150, 151] w2 w3)
        have fm : FM rl7 [148, 151] w w3 := FM_trans (FM_mono f1 (by decide) (by decide)) (FM_trans (FM_mono f2 (by decide) (by decide)) (FM_mono f3 (by decide) (by decide)))
        have af : AF w w3 := AF_trans a1 (AF_trans (AF_eq g2) (AF_eq (FM_a f3 (by decide))))
        have go : ∀ (v : Nat) (y : Int32), c = y → y.toInt - 11 = v → v ≤ 5 → (r = none ∧ RL w w' bs n i (ntF (tm30 w) 3 f) (ntP (tm30 w) (pl bs n i) f p) v) → r = none ∧ ((vbT false bs n i = -1 ∧ FM rl7 [148, 150, 151] w w' ∧ AF w w' ∧ BK w' bs n i) ∨ ∃ v : Nat, vbT false bs n i = v ∧ v ≤ 5 ∧ tkK bs n i = 1 ∧ RL w w' bs n i (ntF (tm30 w) 3 f) (ntP (tm30 w) (pl bs n i) f p) v) := by
          rintro v y ey hv h5 ⟨z1, z2⟩
          exact ⟨z1, Or.inr ⟨v, by rw [evb, ey]; exact hv, h5, c1, z2⟩⟩
        have cc : c = 11 ∨ c = 12 ∨ c = 13 ∨ c = 14 ∨ c = 15 ∨ c = 16 := by
          have t : c.toInt = 11 ∨ c.toInt = 12 ∨ c.toInt = 13 ∨ c.toInt = 14 ∨ c.toInt = 15 ∨ c.toInt = 16 := by omega
          rcases t with t | t | t | t | t | t
          · exact Or.inl (Int32.toInt_inj.mp (by rw [t]; decide +kernel))
          · exact Or.inr (Or.inl (Int32.toInt_inj.mp (by rw [t]; decide +kernel)))
          · exact Or.inr (Or.inr (Or.inl (Int32.toInt_inj.mp (by rw [t]; decide +kernel))))
          · exact Or.inr (Or.inr (Or.inr (Or.inl (Int32.toInt_inj.mp (by rw [t]; decide +kernel)))))
          · exact Or.inr (Or.inr (Or.inr (Or.inr (Or.inl (Int32.toInt_inj.mp (by rw [t]; decide +kernel))))))
          · exact Or.inr (Or.inr (Or.inr (Or.inr (Or.inr (Int32.toInt_inj.mp (by rw [t]; decide +kernel))))))
        rcases cc with e | e | e | e | e | e
        · rw [e, if_pos rfl] at z
          exact go 0 11 e (by rw [e11]; rfl) (by decide) (RL_01 (Or.inl rfl) (by decide +kernel) (by decide +kernel) (by decide +kernel) (by decide +kernel) fm af he hRS3 (fun hz => hc0 (ntF_z (by decide +kernel) hz).1) hz30 z)
        · rw [e, if_neg (by decide +kernel), if_pos rfl] at z
          exact go 1 12 e (by rw [show (12 : Int32).toInt = 12 from by decide +kernel]; rfl) (by decide) (RL_01 (Or.inr rfl) (by decide +kernel) (by decide +kernel) (by decide +kernel) (by decide +kernel) fm af he hRS3 (fun hz => hc0 (ntF_z (by decide +kernel) hz).1) hz30 z)
        · rw [e, if_neg (by decide +kernel), if_neg (by decide +kernel)] at z
          exact go 2 13 e (by rw [show (13 : Int32).toInt = 13 from by decide +kernel]; rfl) (by decide) (RL_2 fm af he hRS3 (fun hz => hc0 (ntF_z (by decide +kernel) hz).1) hz30 z)
        · rw [e, if_neg (by decide +kernel), if_neg (by decide +kernel)] at z
          exact go 3 14 e (by rw [show (14 : Int32).toInt = 14 from by decide +kernel]; rfl) (by decide) (RL_3 fm af he hRS3 (fun hz => hc0 (ntF_z (by decide +kernel) hz).1) hz30 z)
        · rw [e, if_neg (by decide +kernel), if_neg (by decide +kernel)] at z
          exact go 4 15 e (by rw [show (15 : Int32).toInt = 15 from by decide +kernel]; rfl) (by decide) (RL_4 fm af he hRS3 (fun hz => hc0 (ntF_z (by decide +kernel) hz).1) hz30 z)
        · rw [e, if_neg (by decide +kernel), if_neg (by decide +kernel)] at z
          exact go 5 16 e (by rw [e16]; rfl) (by decide) (RL_5 fm af he hRS3 (fun hz => hc0 (ntF_z (by decide +kernel) hz).1) hz30 z)
      · have z := q2 0 er f2.2.2.2
        obtain ⟨k3, w3, u', f3, l3, ec3, z⟩ := L33 _ w2 0 0 f2.2.2.2 (len151 f2.2.2.2) z32 (by omega) z
        rw [if_neg (by decide +kernel), if_neg (by decide +kernel)] at z
        obtain ⟨k4, z⟩ := P104 f3.2.2.2 (by decide +kernel) z
        obtain ⟨k5, z⟩ := P114 f3.2.2.2 (by decide +kernel) z
        obtain ⟨k6, z⟩ := P133 f3.2.2.2 (by decide +kernel) z
        have hB3 := BK_wr hB (FM_mono f3 (by decide) (by decide))
        have fm : FM rl7 [148, 151] w w3 := FM_trans (FM_mono f1 (by decide) (by decide)) (FM_trans (FM_mono f2 (by decide) (by decide)) (FM_mono f3 (by decide) (by decide)))
        have rcE : rcl w3 0 = rcl w 0 := by unfold rcl; rw [FM_a fm (by decide)]
        obtain ⟨z1, w4, k', f4, _, z2⟩ := T150 f3.2.2.2 (len150 f3.2.2.2) (fun w1 f1 => E214_B (BK_wr hB3 (FM_mono f1 (by decide) (by decide)))) z
        have hB4 := BK_wr hB3 (FM_mono f4 (by decide) (by decide))
        have e := END_B hB4 z2
        rw [e]
        refine ⟨z1, Or.inl ⟨?_, FM_trans (FM_mono fm (by decide) (by decide)) (FM_mono f4 (by decide) (by decide)), AF_trans a1 (AF_trans a2 (AF_trans (AF_eq (FM_a f3 (by decide))) (AF_eq (FM_a f4 (by decide))))), hB4⟩⟩
        unfold vbT vbR
        by_cases ck : tkK bs n i = 1
        · rw [if_pos ck, if_neg Bool.false_ne_true, if_neg]
          intro y
          refine c1 ⟨ck, fun y2 => ?_, by rw [e11]; exact y.1, by rw [e16]; exact y.2⟩
          rw [y2, show (99 : Int32).toInt = 99 from by decide +kernel] at y
          omega
        · rw [if_neg ck]
end GE
