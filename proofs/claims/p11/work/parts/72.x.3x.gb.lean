section GB
variable {X : pm_X} {k : Nat} {w0 w wE w' : pm_W} {r : Option Value} {p p1 p2 p3 f0 p0 f q : Int32} {bs : Nat → Int32} {n i v j m : Nat}
/-- the numbers of a ring's people may be 0 to 8 -/
theorem ring_lw {l : Nat} (h : 2 ≤ l) : lwL 2 l = 0 ∧ lwH 2 l = 8 := by
  unfold lwL lwH
  by_cases c : l = 2
  · subst c; decide +kernel
  · rw [show min l 3 = 3 by omega]; decide +kernel
/-- one person more -/
theorem RG_step {S : Nat} {i1 i2 : Int32} {u3 u4 : Value} (h1 : i1.toInt = j) (h2 : i2.toInt = S) (hg : RGI w bs n i f0 p0 j S) (hk : tkK bs n (tP bs n i (2 + j + 1)) = 2) (z : PS X k 216 50 [.ref 147, .int i1, .int i2, u3, u4] [] w r w') : ∃ (w9 : pm_W) (k9 S' : Nat) (y2 z3 z4 : Int32), FM rl7 [148, 151] w w9 ∧ AF w w9 ∧ RGI w9 bs n i f0 p0 (j + 1) S' ∧ y2.toInt = S' ∧ PS X k9 216 30 [.ref 147, .int (i1 + 1), .int y2, .int z3, .int z4] [] w9 r w' := by
  obtain ⟨hJ, h8, hS5, hinv⟩ := hg
  have hS : SK w := hJ.1
  have hR0 : R0 w bs n (tP bs n i (2 + j + 1)) := RS_R0 hJ
  have n6 := RS_n6 hJ
  have e6 : (6 : Int32).toInt = 6 := six32
  obtain ⟨I, hI⟩ : ∃ I, I = tP bs n i (2 + j + 1) := ⟨_, rfl⟩
  obtain ⟨F, hF⟩ : ∃ F, F = (fJ bs n i 2 f0 p0 (2 + j)).1 := ⟨_, rfl⟩
  obtain ⟨P, hP⟩ : ∃ P, P = (fJ bs n i 2 f0 p0 (2 + j)).2 := ⟨_, rfl⟩
  have hqF : qF w = F := by rw [hF]; exact hJ.2.2.2.2.2.2.1
  have hqP : qP w = P := by rw [hP]; exact hJ.2.2.2.2.2.2.2.1
  have hFP : F ≠ 0 → P.toInt < tkS bs n I ∨ (P = pl bs n I ∧ F = 2) := by rw [hF, hP, hI]; exact hJ.2.2.2.2.2.2.2.2.1
  have hin : I ≤ n := by rw [hI]; exact hJ.2.2.2.2.2.2.2.2.2
  rw [← hI] at hk hR0
  have epl := R0_pl hR0
  have eq5 : gI w 147 5 = 1 := by rw [hR0.2.2.1.1, rTk_1]; exact hk
  have nvI : nv bs n i (2 + j) = tkV bs n I := by rw [hI]; rfl
  cases k with
  | zero => exact (PS_0 z).elim
  | succ k =>
    have z := U216_50 hS z
    -- label 73
    have s73 : ∃ (w1 : pm_W) (k1 : Nat), FM [] [148] w w1 ∧ AF w w1 ∧ R0 w1 bs n I ∧ qF w1 = cond (decide (8 ≤ 2 + j)) (alF F P 3 (pl bs n I)) F ∧ qP w1 = cond (decide (8 ≤ 2 + j)) (alP F P 3 (pl bs n I)) P ∧ PS X k1 216 73 [.ref 147, .int i1, .int i2, u3, u4] [] w1 r w' := by
      by_cases c : i1 < 6
      · rw [if_pos c] at z
        rw [Int32.lt_iff_toInt_lt, e6, h1] at c
        rw [decide_eq_false (by omega)]
        exact ⟨w, _, FM_refl hS, AF_refl, hR0, hqF, hqP, z⟩
      · rw [if_neg c, if_pos eq5, epl] at z
        rw [Int32.lt_iff_toInt_lt, e6, h1] at c
        obtain ⟨r1, w1, q1, q2⟩ := z
        obtain ⟨a1, a2, a3, a4, a5, a6⟩ := F211_al hR0 q1
        rw [hqF, hqP] at a5 a6
        rw [decide_eq_true (by omega)]
        exact ⟨w1, _, a2, a3, a4, a5, a6, q2 a1 a2.2.2.2⟩
    obtain ⟨w1, k1, f1, a1, hR1, qF1, qP1, z⟩ := s73
    have eq1 : gI w1 147 5 = 1 := by rw [FM_i f1 (by decide)]; exact eq5
    have en1 : (gI w1 147 6).toInt = tkV bs n I := hR1.2.2.1.2.2.2.1 hk
    have ep1 := R0_pl hR1
    cases k1 with
    | zero => exact (PS_0 z).elim
    | succ k1 =>
      have z := U216_73 f1.2.2.2 z
      rw [if_pos eq1] at z
      have z := use_p f1.2.2.2 z (fun _ _ y => F199 f1.2.2.2 y)
      have ein : isI (gI w1 147 6) 0 8 = true ↔ (0 ≤ tkV bs n I ∧ tkV bs n I ≤ 8) := by
        unfold isI
        rw [Bool.and_eq_true, decide_eq_true_iff, decide_eq_true_iff, en1, z32, eight32]
      -- label 125: tw whether he is there
      have s125 : ∃ (tw : Bool) (w2 : pm_W) (k2 : Nat) (z3 : Int32), (tw = true ↔ ((0 ≤ tkV bs n I ∧ tkV bs n I ≤ 8) ∧ S.testBit (tkV bs n I).toNat = true)) ∧ FM [] [148] w1 w2 ∧ AF w1 w2 ∧ R0 w2 bs n I ∧ qF w2 = cond tw (alF (qF w1) (qP w1) 2 (pl bs n I)) (qF w1) ∧ qP w2 = cond tw (alP (qF w1) (qP w1) 2 (pl bs n I)) (qP w1) ∧ PS X k2 216 125 [.ref 147, .int i1, .int i2, .int z3, u4] [] w2 r w' := by
        have s110 : ∀ k3 : Nat, PS X k3 216 110 [.ref 147, .int i1, .int i2, u3, u4] [] w1 r w' → ∃ k2, PS X k2 216 125 [.ref 147, .int i1, .int i2, .int 0, u4] [] w1 r w' := by
          intro k3 y
          cases k3 with
          | zero => exact (PS_0 y).elim
          | succ k3 => exact ⟨_, U216_110 f1.2.2.2 y⟩
        by_cases ci : b2i (isI (gI w1 147 6) 0 8) = 0
        · rw [if_pos ci] at z
          rw [b2i_0] at ci
          obtain ⟨k2, y⟩ := s110 _ z
          refine ⟨false, w1, k2, 0, ⟨fun y => Bool.noConfusion y, fun y => ?_⟩, FM_refl f1.2.2.2, AF_refl, hR1, rfl, rfl, y⟩
          rw [ein.mpr y.1] at ci
          exact Bool.noConfusion ci
        · rw [if_neg ci] at z
          rw [b2i_0, Bool.not_eq_false, ein] at ci
          have hb := bit_t (S := S) (b := (tkV bs n I).toNat) h2 (y := gI w1 147 6) (by rw [en1]; omega) hS5 (by omega)
          by_cases cb : ((i2 >>> (gI w1 147 6 &&& 31)) &&& 1) = 1
          · rw [if_pos cb, ep1] at z
            obtain ⟨r4, w2, q1, q2⟩ := z
            obtain ⟨b1, b2, b3, b4, b5, b6⟩ := F211_al hR1 q1
            exact ⟨true, w2, _, 1, ⟨fun _ => ⟨ci, hb.mp cb⟩, fun _ => rfl⟩, b2, b3, b4, b5, b6, q2 b1 b2.2.2.2⟩
          · rw [if_neg cb] at z
            obtain ⟨k2, y⟩ := s110 _ z
            exact ⟨false, w1, k2, 0, ⟨fun y => Bool.noConfusion y, fun y => absurd (hb.mpr y.2) cb⟩, FM_refl f1.2.2.2, AF_refl, hR1, rfl, rfl, y⟩
      obtain ⟨tw, w2, k2, z3, htw, f2, a2, hR2, qF2, qP2, z⟩ := s125
      cases k2 with
      | zero => exact (PS_0 z).elim
      | succ k2 =>
        obtain ⟨r5, w3, q1, q2⟩ := U216_125 f2.2.2.2 z
        obtain ⟨f3, a3, hR3, x, ex, xin, xout⟩ := F210_0 hR2 hk q1
        rw [z32, eight32] at xin xout
        have z := q2 x ex f3.2.2.2
        obtain ⟨ou, hou⟩ : ∃ ou, ou = !(decide (0 ≤ tkV bs n I ∧ tkV bs n I ≤ 8)) := ⟨_, rfl⟩
        have qF3 : qF w3 = cond ou (alF (qF w2) (qP w2) 2 (pl bs n I)) (qF w2) ∧ qP w3 = cond ou (alP (qF w2) (qP w2) 2 (pl bs n I)) (qP w2) := by
          by_cases c : 0 ≤ tkV bs n I ∧ tkV bs n I ≤ 8
          · rw [hou, decide_eq_true c]
            exact (xin c).2
          · rw [hou, decide_eq_false c]
            exact (xout c).2
        have xb : 0 ≤ x.toInt ∧ x.toInt ≤ 8 := by
          by_cases c : 0 ≤ tkV bs n I ∧ tkV bs n I ≤ 8
          · rw [(xin c).1]; exact c
          · rw [(xout c).1, z32]; decide
        obtain ⟨xn, hxn⟩ : ∃ xn : Nat, xn = x.toInt.toNat := ⟨_, rfl⟩
        have hxn' : x.toInt = xn := by omega
        obtain ⟨so1, so2⟩ := bit_o h2 hxn' hS5 (by omega)
        rw [qF2, qP2, qF1, qP1] at qF3
        have ql : (pl bs n I).toInt = tkS bs n I := pl_i n6 hin
        have hbj : F = 0 → bJ bs n i 2 (2 + j) = (tw || ou) := by
          intro hz
          obtain ⟨j6, _, iv3, iv4⟩ := hinv (by rw [← hF]; exact hz)
          refine bool_iff (bJ_iff.trans ?_)
          obtain ⟨w1', w2'⟩ := ring_lw (l := 2 + j) (by omega)
          unfold badI
          rw [w1', w2', nvI, hou]
          constructor
          · rintro (y | y | ⟨y, _⟩ | ⟨_, t, y1, y2, y3, y4⟩)
            · rw [decide_eq_false (show ¬ (0 ≤ tkV bs n I ∧ tkV bs n I ≤ 8) by omega)]
              exact Bool.or_true _
            · rw [decide_eq_false (show ¬ (0 ≤ tkV bs n I ∧ tkV bs n I ≤ 8) by omega)]
              exact Bool.or_true _
            · omega
            · have iv := iv3 t y1 y2
              rw [htw.mpr ⟨by rw [y4]; exact iv, (iv4 _ (by rw [y4]; omega)).mpr ⟨t, y1, y2, by rw [y4]; omega⟩⟩]
              exact Bool.true_or _
          · intro y
            rw [Bool.or_eq_true] at y
            rcases y with y | y
            · obtain ⟨y1, y2⟩ := htw.mp y
              obtain ⟨t, b1, b2, b3⟩ := (iv4 _ (by omega)).mp y2
              exact Or.inr (Or.inr (Or.inr ⟨rfl, t, b1, b2, by omega, by rw [b3]; omega⟩))
            · rw [Bool.not_eq_true', decide_eq_false_iff_not] at y
              by_cases c : tkV bs n I < 0
              · exact Or.inl c
              · exact Or.inr (Or.inl (by omega))
        have hto : tw = true → ou = false := by
          intro y
          rw [hou, decide_eq_true (htw.mp y).1]
          rfl
        obtain ⟨rf, rp⟩ := RG_f (q := pl bs n I) (F := F) (P := P) (l := 2 + j) (fun hz => by rw [ql]; exact hFP hz) hbj hto
        rw [rf, rp] at qF3
        have fs : fJ bs n i 2 f0 p0 (2 + (j + 1)) = (ntF (decide (8 ≤ 2 + j)) 3 (ntF (bJ bs n i 2 (2 + j)) 2 F), ntP (decide (8 ≤ 2 + j)) (pl bs n I) (ntF (bJ bs n i 2 (2 + j)) 2 F) (ntP (bJ bs n i 2 (2 + j)) (pl bs n I) F P)) := by
          rw [hF, hP, hI]
          rfl
        have fm3 : FM rl7 [148, 151] w w3 := FM_trans (FM_mono f1 (by decide) (by decide)) (FM_trans (FM_mono f2 (by decide) (by decide)) (FM_mono f3 (by decide) (by decide)))
        have af3 : AF w w3 := AF_trans a1 (AF_trans a2 a3)
        have g3 : gA w3 151 = gA w 151 := by rw [FM_a f3 (by decide), FM_a f2 (by decide), FM_a f1 (by decide)]
        have l8 := len151 hS
        -- the end, from a state w4 at label 157
        have fin : ∀ (w4 : pm_W) (k4 : Nat), FM [] [151] w3 w4 → (∀ t, t < 8 → ecl w4 t = if t = 2 + j then x else ecl w t) → PS X k4 216 157 [.ref 147, .int i1, .int (i2 ||| (1 <<< (x &&& 31))), .int z3, .int x] [] w4 r w' → ∃ (w9 : pm_W) (k9 S' : Nat) (y2 z3 z4 : Int32), FM rl7 [148, 151] w w9 ∧ AF w w9 ∧ RGI w9 bs n i f0 p0 (j + 1) S' ∧ y2.toInt = S' ∧ PS X k9 216 30 [.ref 147, .int (i1 + 1), .int y2, .int z3, .int z4] [] w9 r w' := by
          intro w4 k4 f4 e4 y
          cases k4 with
          | zero => exact (PS_0 y).elim
          | succ k4 =>
            have y := U216_157 f4.2.2.2 y
            refine ⟨w4, k4, S ||| 2 ^ xn, _, _, _, FM_trans fm3 (FM_mono f4 (by decide) (by decide)), AF_trans af3 (AF_eq (FM_a f4 (by decide))), ⟨?_, fun t ht h2t => ?_, so2, fun hz => ?_⟩, so1, y⟩
            · show RS w4 bs n (tP bs n i (2 + (j + 1) + 1)) (fJ bs n i 2 f0 p0 (2 + (j + 1))).1 (fJ bs n i 2 f0 p0 (2 + (j + 1))).2
              rw [fs]
              have et : tP bs n i (2 + (j + 1) + 1) = tkN bs n I := by rw [hI]; rfl
              rw [et]
              refine RS_wr (R0_RS hR3 qF3.1 qF3.2 (fun hz => Or.inl ?_)) (FM_mono f4 (by decide) (by decide))
              have b := tkN_b (bs := bs) (n := n) (i := I) (by rw [hk]; decide)
              have s := tkS_b (bs := bs) (n := n) (i := tkN bs n I)
              have lt := ntP_lt (b := decide (8 ≤ 2 + j)) (f := ntF (bJ bs n i 2 (2 + j)) 2 F) (p := ntP (bJ bs n i 2 (2 + j)) (pl bs n I) F P) (q := pl bs n I) (m := tkS bs n I) (m' := tkS bs n I + 1) ql (by omega) (fun hz2 => ntP_lt (b := bJ bs n i 2 (2 + j)) (f := F) (p := P) (q := pl bs n I) (m := tkS bs n I) (m' := tkS bs n I + 1) ql (by omega) (fun hz3 => by
                rcases hFP hz3 with c | ⟨c, _⟩
                · omega
                · rw [c, ql]; omega) hz2) hz
              show (ntP (decide (8 ≤ 2 + j)) (pl bs n I) (ntF (bJ bs n i 2 (2 + j)) 2 F) (ntP (bJ bs n i 2 (2 + j)) (pl bs n I) F P)).toInt < (tkS bs n (tkN bs n I) : Nat)
              omega
            · rw [e4 t ht, if_neg (by omega)]
              exact h8 t ht (by omega)
            · rw [fs] at hz
              have hz : ntF (decide (8 ≤ 2 + j)) 3 (ntF (bJ bs n i 2 (2 + j)) 2 F) = 0 := hz
              have hF0 : F = 0 := by
                by_cases c : F = 0
                · exact c
                · rw [ntF_any (b := bJ bs n i 2 (2 + j)) (b' := false) (kd' := 2) c, show ntF false 2 F = F from rfl, ntF_any (b' := false) (kd' := 3) c] at hz
                  exact hz
              have hbF : bJ bs n i 2 (2 + j) = false := by
                cases c : bJ bs n i 2 (2 + j) with
                | false => rfl
                | true =>
                  rw [c, ntF_t, if_pos hF0, ntF_any (b' := false) (kd' := 3) (by decide +kernel)] at hz
                  exact absurd hz (by decide +kernel)
              have hj6 : j < 6 := by
                by_cases c : 8 ≤ 2 + j
                · rw [hbF, show ntF false 2 F = F from rfl, decide_eq_true c, ntF_t, if_pos hF0] at hz
                  exact absurd hz (by decide +kernel)
                · omega
              obtain ⟨_, iv2, iv3, iv4⟩ := hinv (by rw [← hF]; exact hF0)
              have hor := hbj hF0
              rw [hbF] at hor
              have hof : ou = false := by cases tw <;> cases ou <;> first | rfl | cases hor
              have cin : 0 ≤ tkV bs n I ∧ tkV bs n I ≤ 8 := by
                rw [hou, Bool.not_eq_false', decide_eq_true_iff] at hof
                exact hof
              have xv := (xin cin).1
              refine ⟨by omega, fun t ht => ?_, fun t t1 t2 => ?_, fun b hb => ?_⟩
              · rw [e4 t (by omega)]
                by_cases c : t = 2 + j
                · rw [if_pos c, c]
                  exact ns32_of (by rw [xv, nvI])
                · rw [if_neg c]
                  exact iv2 t (by omega)
              · by_cases c : t = 2 + j
                · rw [c, nvI]; exact cin
                · exact iv3 t t1 (by omega)
              · rw [bit_r, Bool.or_eq_true, decide_eq_true_iff, iv4 b hb]
                constructor
                · rintro (⟨t, t1, t2, t3⟩ | c)
                  · exact ⟨t, t1, by omega, t3⟩
                  · exact ⟨2 + j, by omega, by omega, by rw [nvI, ← xv]; omega⟩
                · rintro ⟨t, t1, t2, t3⟩
                  by_cases c : t = 2 + j
                  · right
                    rw [c, nvI, ← xv] at t3
                    omega
                  · exact Or.inl ⟨t, t1, by omega, t3⟩
        by_cases c6 : 6 ≤ i1
        · rw [if_pos c6] at z
          rw [Int32.le_iff_toInt_le, e6, h1] at c6
          exact fin w3 _ (FM_refl f3.2.2.2) (fun t ht => by unfold ecl; rw [g3, if_neg (by omega)]) z
        · rw [if_neg c6] at z
          rw [Int32.le_iff_toInt_le, e6, h1] at c6
          obtain ⟨hI2, z⟩ := z
          have z := z _ rfl
          have ei : (2 + i1).toInt = (2 + j : Nat) := by
            rw [zi_add two32 h1 (by omega) (by omega)]
            omega
          refine fin _ _ (FM_aS f3.2.2.2 (by decide)) (fun t ht => ?_) z
          unfold ecl
          rw [gA_aS (aI_isA hI2), i_nat ei, g3, getD_set (by omega)]
end GB
