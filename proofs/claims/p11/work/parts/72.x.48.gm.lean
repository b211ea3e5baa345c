/-! ===== the reference's text, as a whole ===== -/
section GMM
variable {X : pm_X} {k : Nat} {w0 w w1 w' : pm_W} {r : Option Value} {p p1 p2 p3 f0 p0 f q : Int32} {bs cs : Nat → Int32} {n i v j m : Nat} {b : Bool} {c : Nat → Int32} {g : Int}
/-- the number of what a text is told as; -1 none -/
def plcF (s a vc rc : Int32) : Int32 := if s = 0 then (if a = -1 then (if vc.toInt < 2 then vc else -1) else if 0 ≤ a.toInt ∧ a.toInt < vc.toInt then a else -1) else if s = 1 then (if a = -1 then (if rc.toInt < 3 then rc else -1) else if 0 ≤ a.toInt ∧ a.toInt < rc.toInt then a else -1) else -1
theorem ntP_z {b : Bool} {kd f q : Int32} (hk : kd ≠ 0) (h : ntF b kd f = 0) : ntP b q f p = p := by
  obtain ⟨_, h2⟩ := ntF_z hk h
  rw [h2]
  rfl
theorem fJ_p : ∀ m : Nat, (fJ bs n i v f0 p0 m).1 = 0 → (fJ bs n i v f0 p0 m).2 = p0
  | 0, _ => rfl
  | m + 1, h => by
    have h : ntF (decide (8 ≤ m)) 3 (ntF (bJ bs n i v m) 2 (fJ bs n i v f0 p0 m).1) = 0 := h
    have h1 := (ntF_z (by decide +kernel) h).1
    have h2 := (ntF_z (by decide +kernel) h1).1
    show ntP (decide (8 ≤ m)) (pl bs n (tP bs n i (m + 1))) (ntF (bJ bs n i v m) 2 (fJ bs n i v f0 p0 m).1) (ntP (bJ bs n i v m) (pl bs n (tP bs n i (m + 1))) (fJ bs n i v f0 p0 m).1 (fJ bs n i v f0 p0 m).2) = p0
    rw [ntP_z (kd := 3) (by decide +kernel) h, ntP_z (kd := 2) (by decide +kernel) h1]
    exact fJ_p m h2
theorem RD_p : ∀ (N : Nat) {i : Nat} {f p : Int32} {c : Nat → Int32} {g : Int} {o : OC}, RDq b bs n N i f p c g o → (f = 0 → p = -1) → o.2.1 = 0 → o.2.2.1 = -1
  | 0, _, _, _, _, _, _, q, _, _ => q.elim
  | N + 1, i, f, p, c, g, o, q, hp, ho => by
    rcases q with ⟨h1, e⟩ | ⟨h1, h2, e⟩ | ⟨v, m, h1, h2, e⟩ | ⟨v, m, h1, h2, h3⟩
    · rw [e] at ho ⊢
      exact hp ho
    · rw [e] at ho
      exact absurd (show (1 : Int32) = 0 from ho) (by decide +kernel)
    · rw [e] at ho
      exact absurd (show (1 : Int32) = 0 from ho) (by decide +kernel)
    · refine RD_p N h3 (fun hz => ?_) ho
      have e : (fD b bs n i f p c v m).2 = ntP (tmC b c v) (pl bs n i) f p := fJ_p m hz
      rw [e, ntP_z (kd := 3) (by decide +kernel) (fJ_00 m hz)]
      exact hp (fD_0 hz).1
theorem fF_0 {o : OC} (h : fF b o = 0) : o.2.1 = 0 ∧ pF b n o = o.2.2.1 := by
  by_cases z : b = true ∧ o.2.1 = 0 ∧ (o.2.2.2.1 0).toInt ≤ o.2.2.2.2
  · rw [(fF_y (n := n) z).1] at h
    exact absurd h (by decide +kernel)
  · obtain ⟨y1, y2⟩ := fF_n (b := b) (n := n) z
    rw [y1] at h
    exact ⟨h, y2⟩
theorem plc_eq {s a vc rc cnt : Int32} {s0 : Nat} (hs : (s = 0 ∧ cnt = vc ∧ s0 = 0) ∨ (s = 1 ∧ cnt = rc ∧ s0 = 1)) : plcF s a vc rc = if a = -1 then (if cnt.toInt < (s0 + 2 : Nat) then cnt else -1) else if 0 ≤ a.toInt ∧ a.toInt < cnt.toInt then a else -1 := by
  unfold plcF
  rcases hs with ⟨h1, h2, h3⟩ | ⟨h1, h2, h3⟩
  · rw [if_pos h1, h2, h3]
    rfl
  · rw [if_neg (by rw [h1]; decide +kernel), if_pos h1, h2, h3]
    rfl
/-- what is told behind a text that was taken -/
def tlN (b : Bool) (κ : Nat) (c a : Nat → Int32) (cnt : Int32) (s0 : Nat) (q : Nat) : Int32 := if q = 2 then 0 else if q = 3 then 0 else if q = 4 then -1 else if q = s0 then cnt else if (cond b 610 874) + (cond b 132 272) * κ ≤ q ∧ q < (cond b 610 874) + (cond b 132 272) * κ + (cond b 132 272) then c (q - ((cond b 610 874) + (cond b 132 272) * κ)) else a q
theorem F198 (hS : SK w) (hL0 : 0 ≤ (al w 2).toInt) (hL6 : (al w 2).toInt ≤ 600) (hn : n = (al w 2).toInt.toNat) (hB : ∀ i, i < n → 0 ≤ (rb w i).toInt) (h00 : 0 ≤ (al w 0).toInt) (h01 : (al w 0).toInt ≤ 2) (h10 : 0 ≤ (al w 1).toInt) (h11 : (al w 1).toInt ≤ 3) (hb : b = decide (p1 = 0)) (h : PS X k 198 0 [.ref 147, .int p1, .int p2, pm_dead, pm_dead, pm_dead] [] w r w') : FM ((147, 2) :: rl7) [148, 150, 151] w w' ∧ ((plcF p1 p2 (al w 0) (al w 1) = -1 ∧ r = some (.int (-2)) ∧ ∀ q, al w' q = if q = 4 then -1 else if q = 3 then 0 else if q = 2 then 0 else al w q) ∨ (plcF p1 p2 (al w 0) (al w 1) ≠ -1 ∧ ∃ (N : Nat) (o : OC), RDq b (rb w) n N 0 0 (-1) (i0 b) 0 o ∧ ((fF b o ≠ 0 ∧ r = some (.int (-1)) ∧ ∀ q, al w' q = if q = 3 then fF b o else if q = 4 then pF b n o else if q = 2 then 0 else al w q) ∨ (fF b o = 0 ∧ r = some (.int (plcF p1 p2 (al w 0) (al w 1))) ∧ ∃ (s0 : Nat) (cnt : Int32), ((p1 = 0 ∧ cnt = al w 0 ∧ s0 = 0) ∨ (p1 = 1 ∧ cnt = al w 1 ∧ s0 = 1)) ∧ ∀ q, al w' q = tlN b (plcF p1 p2 (al w 0) (al w 1)).toInt.toNat o.2.2.2.1 (al w) (if p2 = -1 then cnt + 1 else cnt) s0 q)))) := by
  have m1 : ((-1 : Int32)).toInt = -1 := by decide +kernel
  cases k with
  | zero => exact (PS_0 h).elim
  | succ k =>
    obtain ⟨_, h⟩ := U198_0 hS h
    obtain ⟨_, h⟩ := h _ rfl
    obtain ⟨_, h⟩ := h _ rfl
    obtain ⟨_, h⟩ := h _ rfl
    have h := h _ rfl
    have e2 : aG w 148 2 = al w 2 := aG_n (m := 2) two32
    rw [e2] at h
    obtain ⟨wa, ea⟩ : ∃ wa, wa = sI w 147 2 (al w 2) := ⟨_, rfl⟩
    rw [← ea] at h
    obtain ⟨w4, e4⟩ : ∃ w4, w4 = aS (aS (aS wa 148 2 0) 148 3 0) 148 4 (-1) := ⟨_, rfl⟩
    rw [← e4] at h
    have fa : FM ((147, 2) :: rl7) [148, 150, 151] w wa := by rw [ea]; exact FM_sI hS (by decide)
    have ga : gI wa 147 2 = al w 2 := by rw [ea, gI_sI (SK_isF hS (by decide +kernel))]
    have Sa := fa.2.2.2
    have fa4 : FM [] [148] wa w4 := by
      rw [e4]
      exact FM_trans (FM_aS Sa (by decide)) (FM_trans (FM_aS (SK_aS Sa) (by decide)) (FM_aS (SK_aS (SK_aS Sa)) (by decide)))
    have f4 : FM ((147, 2) :: rl7) [148, 150, 151] w w4 := FM_trans fa (FM_mono fa4 (by decide) (by decide))
    have S4 := f4.2.2.2
    have ala : ∀ q, al wa q = al w q := fun q => by rw [ea]; show (gA (sI w 147 2 (al w 2)) 148).getD q 0 = _; rw [gA_sI]; rfl
    have al4 : ∀ q, al w4 q = if q = 4 then -1 else if q = 3 then 0 else if q = 2 then 0 else al w q := fun q => by
      rw [e4, al_aS (SK_aS (SK_aS Sa)) four32 (by decide), al_aS (SK_aS Sa) three32 (by decide), al_aS Sa two32 (by decide), ala]
    have h := use_p S4 h (fun _ _ z => F199 S4 z)
    have f69 : ∀ k', PS X k' 198 69 [.ref 147, .int p1, .int p2, pm_dead, pm_dead, pm_dead] [] w4 r w' → r = some (.int (-2)) ∧ w' = w4 := by
      intro k' z
      cases k' with
      | zero => exact (PS_0 z).elim
      | succ k' => exact U198_69 S4 z
    have nop : ∀ k', plcF p1 p2 (al w 0) (al w 1) = -1 → PS X k' 198 69 [.ref 147, .int p1, .int p2, pm_dead, pm_dead, pm_dead] [] w4 r w' → FM ((147, 2) :: rl7) [148, 150, 151] w w' ∧ (plcF p1 p2 (al w 0) (al w 1) = -1 ∧ r = some (.int (-2)) ∧ ∀ q, al w' q = if q = 4 then -1 else if q = 3 then 0 else if q = 2 then 0 else al w q) := by
      intro k' e z
      obtain ⟨z1, z2⟩ := f69 k' z
      subst w'
      exact ⟨f4, e, z1, al4⟩
    have e1 : (1 : Int32).toInt = 1 := o32
    by_cases ci : b2i (isI p1 0 1) = 0
    · rw [if_pos ci] at h
      have ci := b2i_0.mp ci
      have n0 : p1 ≠ 0 := fun z => by rw [z] at ci; exact absurd ci (by decide +kernel)
      have n1 : p1 ≠ 1 := fun z => by rw [z] at ci; exact absurd ci (by decide +kernel)
      have ep : plcF p1 p2 (al w 0) (al w 1) = -1 := by
        unfold plcF
        rw [if_neg n0, if_neg n1]
      obtain ⟨z1, z2⟩ := nop _ ep h
      exact ⟨z1, Or.inl z2⟩
    · rw [if_neg ci] at h
      have ci : isI p1 0 1 = true := by
        cases hh : isI p1 0 1 with
        | true => rfl
        | false => exact absurd (b2i_0.mpr hh) ci
      unfold isI at ci
      rw [Bool.and_eq_true, decide_eq_true_iff, decide_eq_true_iff, z32, o32] at ci
      obtain ⟨s0, cnt, hs, hs0, hs1⟩ : ∃ (s0 : Nat) (cnt : Int32), ((p1 = 0 ∧ cnt = al w 0 ∧ s0 = 0) ∨ (p1 = 1 ∧ cnt = al w 1 ∧ s0 = 1)) ∧ p1.toInt = s0 ∧ s0 ≤ 1 := by
        by_cases z : p1 = 0
        · exact ⟨0, _, Or.inl ⟨z, rfl, rfl⟩, by rw [z]; rfl, by decide⟩
        · have z1 : p1 = 1 := Int32.toInt_inj.mp (by rw [o32]; have : p1.toInt ≠ 0 := fun y => z (Int32.toInt_inj.mp (by rw [y, z32])); omega)
          exact ⟨1, _, Or.inr ⟨z1, rfl, rfl⟩, by rw [z1, o32]; rfl, by decide⟩
      have hcnt : al w4 s0 = cnt ∧ al w s0 = cnt := by
        rcases hs with ⟨_, h2, h3⟩ | ⟨_, h2, h3⟩
        · rw [h2, h3, al4]; exact ⟨rfl, rfl⟩
        · rw [h2, h3, al4]; exact ⟨rfl, rfl⟩
      have hc0 : 0 ≤ cnt.toInt ∧ cnt.toInt ≤ 3 := by
        rcases hs with ⟨_, h2, h3⟩ | ⟨_, h2, h3⟩
        · rw [h2]; omega
        · rw [h2]; omega
      have ep := plc_eq (a := p2) hs
      have aGe : aG w4 148 p1 = cnt := (aG_n (m := s0) hs0).trans hcnt.1
      have elim2 : (0 : Int) ≤ (p1 + 2).toInt ∧ (p1 + 2).toInt = (s0 + 2 : Nat) := by
        rw [zi_add hs0 two32 (by omega) (by omega)]
        omega
      have go : (plcF p1 p2 (al w 0) (al w 1) = -1 ∧ ∃ k', PS X k' 198 69 [.ref 147, .int p1, .int p2, pm_dead, pm_dead, pm_dead] [] w4 r w') ∨ (plcF p1 p2 (al w 0) (al w 1) ≠ -1 ∧ ∃ k', PS X k' 198 72 [.ref 147, .int p1, .int p2, pm_dead, pm_dead, pm_dead] [] w4 r w') := by
        rw [ep]
        by_cases ea1 : p2 = -1
        · rw [if_pos ea1] at h ⊢
          obtain ⟨_, h⟩ := h
          rw [aGe] at h
          by_cases lt : cnt < p1 + 2
          · rw [if_pos lt] at h
            rw [Int32.lt_iff_toInt_lt, elim2.2] at lt
            rw [if_pos lt]
            exact Or.inr ⟨fun z => by rw [z, m1] at hc0; omega, _, h⟩
          · rw [if_neg lt] at h
            rw [Int32.lt_iff_toInt_lt, elim2.2] at lt
            rw [if_neg lt]
            exact Or.inl ⟨rfl, _, h⟩
        · rw [if_neg ea1] at h ⊢
          have F200 : ∀ r8 w9, PS X k 200 0 [.ref 147, .int p1, .int p2] [] w4 r8 w9 → r8 = some (.int (b2i (isI p2 0 (cnt - 1)))) ∧ w9 = w4 := by
            intro r8 w9 z
            cases k with
            | zero => exact (PS_0 z).elim
            | succ k =>
              obtain ⟨_, z⟩ := U200_0 S4 z
              rw [aGe] at z
              exact use_p S4 z (fun _ _ z => F199 S4 z)
          have h := use_p S4 h F200
          have ec : (cnt - 1).toInt = cnt.toInt - 1 := zi_sub rfl o32 (by omega) (by omega)
          by_cases cz : b2i (isI p2 0 (cnt - 1)) = 0
          · rw [if_pos cz] at h
            have cz := b2i_0.mp cz
            unfold isI at cz
            rw [z32, ec] at cz
            rw [if_neg (fun y => by
              rw [decide_eq_true y.1, decide_eq_true (by omega : p2.toInt ≤ cnt.toInt - 1)] at cz
              exact absurd cz (by decide))]
            exact Or.inl ⟨rfl, _, h⟩
          · rw [if_neg cz] at h
            have cz : isI p2 0 (cnt - 1) = true := by
              cases hh : isI p2 0 (cnt - 1) with
              | true => rfl
              | false => exact absurd (b2i_0.mpr hh) cz
            unfold isI at cz
            rw [Bool.and_eq_true, decide_eq_true_iff, decide_eq_true_iff, z32, ec] at cz
            rw [if_pos ⟨cz.1, by omega⟩]
            exact Or.inr ⟨ea1, _, h⟩
      rcases go with ⟨e, k', z⟩ | ⟨e, k', z⟩
      · obtain ⟨z1, z2⟩ := nop _ e z
        exact ⟨z1, Or.inl z2⟩
      · cases k' with
        | zero => exact (PS_0 z).elim
        | succ k' =>
          have z := U198_72 S4 z _ rfl _ rfl _ rfl
          obtain ⟨w7, e7⟩ : ∃ w7, w7 = sI (sI (sI w4 147 3 0) 147 8 0) 147 9 0 := ⟨_, rfl⟩
          rw [← e7] at z
          have s1 : FM [(147, 3), (147, 8), (147, 9)] [] w4 (sI w4 147 3 0) := FM_sI S4 (by decide)
          have s2 : FM [(147, 3), (147, 8), (147, 9)] [] (sI w4 147 3 0) (sI (sI w4 147 3 0) 147 8 0) := FM_sI s1.2.2.2 (by decide)
          have s3 : FM [(147, 3), (147, 8), (147, 9)] [] (sI (sI w4 147 3 0) 147 8 0) w7 := by rw [e7]; exact FM_sI s2.2.2.2 (by decide)
          have f7 := FM_trans s1 (FM_trans s2 s3)
          have g3 : gI w7 147 3 = 0 := by rw [e7, gI_sI_ne (by decide), gI_sI_ne (by decide), gI_sI (SK_isF S4 (by decide +kernel))]
          have g8 : gI w7 147 8 = 0 := by rw [e7, gI_sI_ne (by decide), gI_sI (SK_isF s1.2.2.2 (by decide +kernel))]
          have g9 : gI w7 147 9 = 0 := by rw [e7, gI_sI (SK_isF s2.2.2.2 (by decide +kernel))]
          have S7 := f7.2.2.2
          obtain ⟨w8, k8, i3', r5, w9, f8, c8, q1, q2⟩ := L198_89 hb _ w7 0 0 S7 z32 (by decide) (fun q hq => absurd hq (Nat.not_lt_zero q)) z
          have S8 := f8.2.2.2
          have f48 : FM ((147, 2) :: rl7) [148, 150, 151] w4 w8 := FM_trans (FM_mono f7 (by decide) (by decide)) (FM_mono f8 (by decide) (by decide))
          have al8 : al w8 = al w4 := (al_FM f8 (by decide)).trans (al_FM f7 (by intro z; cases z))
          have rb8 : rb w8 = rb w := by
            funext i
            show al w8 (10 + i) = al w (10 + i)
            rw [al8, al4, if_neg (by omega), if_neg (by omega), if_neg (by omega)]
          have g2 : gI w8 147 2 = al w 2 := by rw [FM_i f8 (by decide), FM_i f7 (by decide), FM_i fa4 (by intro z; cases z), ga]
          have rn8 : rn w8 = n := by unfold rn; rw [g2, hn]
          have hR8 : RB w8 := by
            unfold RB
            rw [g2, rn8, rb8]
            exact ⟨hL0, hL6, hB⟩
          have g38 : gI w8 147 3 = 0 := by rw [FM_i f8 (by intro z; cases z)]; exact g3
          obtain ⟨a1, a2, a3⟩ := F201 S8 hR8 (by rw [g38]; decide) q1
          have S9 := a2.2.2.2
          have z := q2 a1 S9
          have rat8 : rat w8 = 0 := by unfold rat; rw [g38]; rfl
          unfold TKr at a3
          rw [rb8, rn8, rat8] at a3
          have hRS : RS w9 (rb w) n 0 0 (-1) := by
            have al9 : al w9 = al w8 := al_FM a2 (by intro z; cases z)
            refine ⟨S9, ?_, a3, (rb_FM a2 (by intro z; cases z)).trans rb8, (rn_FM a2 (by decide)).trans rn8, RB_FM hR8 a2 (by decide) (by intro z; cases z), ?_, ?_, fun y => absurd rfl y, Nat.zero_le _⟩
            · rw [FM_i a2 (by decide), FM_i f8 (by intro z; cases z)]; exact g8
            · show al w9 3 = 0
              rw [al9, al8, al4]
              rfl
            · show al w9 4 = -1
              rw [al9, al8, al4]
              rfl
          have hNC : NC b (i0 b) := by
            unfold NC
            cases b with
            | true => rw [if_pos rfl]; decide +kernel
            | false => rw [if_neg Bool.false_ne_true]; decide +kernel
          have hCR : CR b w9 (i0 b) 0 := by
            refine ⟨fun q => ?_, fun _ => ?_⟩
            · have e : rcl w9 q = rcl w8 q := by unfold rcl; rw [FM_a a2 (by intro z; cases z)]
              rw [e]; exact c8 q
            · rw [FM_i a2 (by decide), FM_i f8 (by intro z; cases z), g9]; decide
          have n6 : n ≤ 600 := by omega
          obtain ⟨w10, k10, N, o, b1, b2, b3, b4, b5, b6, b7, b8, z⟩ := F198_128 hb _ w9 0 0 (-1) (i0 b) 0 hRS (fun _ => hNC) (fun _ => hCR) z
          obtain ⟨w11, k11, c1, c2, c3, c4, z⟩ := F198_160 b1.2.2.2 hb b4 b5 b6 b7 n6 b8 z
          have S11 := c1.2.2.2
          have f9 : FM ((147, 2) :: rl7) [148, 150, 151] w w9 := FM_trans f4 (FM_trans f48 (FM_mono a2 (by decide) (by decide)))
          have f11 : FM ((147, 2) :: rl7) [148, 150, 151] w w11 := FM_trans f9 (FM_trans (FM_mono b1 (by decide) (by decide)) (FM_mono c1 (by decide) (by decide)))
          have al11 : ∀ q, al w11 q = if q = 3 then fF b o else if q = 4 then pF b n o else if q = 2 then 0 else al w q := by
            intro q
            by_cases q3 : q = 3
            · rw [if_pos q3, q3]; exact c3
            · rw [if_neg q3]
              by_cases q4 : q = 4
              · rw [if_pos q4, q4]; exact c4
              · rw [if_neg q4, AF_al c2 q q3 q4, AF_al b2 q q3 q4, al_FM a2 (by intro z; cases z), al8, al4, if_neg q4, if_neg q3]
          cases k11 with
          | zero => exact (PS_0 z).elim
          | succ k11 =>
            obtain ⟨_, z⟩ := U198_195 S11 z
            rw [show aG w11 148 3 = fF b o from (aG_n (m := 3) three32).trans c3] at z
            by_cases cf : fF b o = 0
            · rw [if_pos cf] at z
              obtain ⟨o0, op⟩ := fF_0 (n := n) cf
              have oc := b8 o0
              have pm1 : pF b n o = -1 := op.trans (RD_p N b3 (fun _ => rfl) o0)
              -- the number, the count
              have go : ∃ (w12 : pm_W) (k12 : Nat), FM [] [148] w11 w12 ∧ (∀ q, al w12 q = if q = s0 then (if p2 = -1 then cnt + 1 else cnt) else al w11 q) ∧ PS X k12 198 237 [.ref 147, .int p1, .int p2, .int (plcF p1 p2 (al w 0) (al w 1)), pm_dead, pm_dead] [] w12 r w' := by
                have acnt : aG w11 148 p1 = cnt := by
                  rw [aG_n (m := s0) hs0]
                  show al w11 s0 = cnt
                  rw [al11, if_neg (by omega), if_neg (by omega), if_neg (by omega)]
                  exact hcnt.2
                by_cases ea1 : p2 = -1
                · rw [if_pos ea1] at z
                  obtain ⟨_, z⟩ := z
                  rw [if_pos ea1] at z
                  obtain ⟨_, _, z⟩ := z
                  have z := z _ rfl
                  rw [acnt] at z
                  have epc : plcF p1 p2 (al w 0) (al w 1) = cnt := by
                    rw [ep, if_pos ea1] at e ⊢
                    by_cases lt : cnt.toInt < (s0 + 2 : Nat)
                    · rw [if_pos lt]
                    · rw [if_neg lt] at e; exact absurd rfl e
                  rw [epc]
                  exact ⟨_, _, FM_aS S11 (by decide), fun q => by rw [al_aS S11 hs0 (by omega), if_pos ea1], z⟩
                · rw [if_neg ea1, if_neg ea1] at z
                  have epc : plcF p1 p2 (al w 0) (al w 1) = p2 := by
                    rw [ep, if_neg ea1] at e ⊢
                    by_cases lt : 0 ≤ p2.toInt ∧ p2.toInt < cnt.toInt
                    · rw [if_pos lt]
                    · rw [if_neg lt] at e; exact absurd rfl e
                  rw [epc]
                  refine ⟨w11, _, FM_refl S11, fun q => ?_, z⟩
                  rw [if_neg ea1]
                  by_cases y : q = s0
                  · rw [if_pos y, y, al11, if_neg (by omega), if_neg (by omega), if_neg (by omega)]; exact hcnt.2
                  · rw [if_neg y]
              obtain ⟨w12, k12, f12, al12, z⟩ := go
              obtain ⟨PL, hPL⟩ : ∃ PL, PL = plcF p1 p2 (al w 0) (al w 1) := ⟨_, rfl⟩
              rw [← hPL] at z e ep ⊢
              have hPr : 0 ≤ PL.toInt ∧ PL.toInt ≤ (s0 + 1 : Nat) := by
                rw [ep] at e ⊢
                by_cases ea1 : p2 = -1
                · rw [if_pos ea1] at e ⊢
                  by_cases lt : cnt.toInt < (s0 + 2 : Nat)
                  · rw [if_pos lt] at e ⊢; omega
                  · rw [if_neg lt] at e; exact absurd rfl e
                · rw [if_neg ea1] at e ⊢
                  have hc2 : cnt.toInt ≤ (s0 + 2 : Nat) := by
                    rcases hs with ⟨_, h2, h3⟩ | ⟨_, h2, h3⟩
                    · rw [h2, h3]; omega
                    · rw [h2, h3]; omega
                  by_cases lt : 0 ≤ p2.toInt ∧ p2.toInt < cnt.toInt
                  · rw [if_pos lt] at e ⊢; omega
                  · rw [if_neg lt] at e; exact absurd rfl e
              have ePL : PL.toInt = PL.toInt.toNat := by omega
              have fin : ∀ (B N : Nat) (i4 : Int32) (k13 : Nat), i4.toInt = N → ((p1 = 0 ∧ B = 610 + 132 * PL.toInt.toNat ∧ N = 132 ∧ PL.toInt.toNat ≤ 1) ∨ (p1 ≠ 0 ∧ B = 874 + 272 * PL.toInt.toNat ∧ N = 272 ∧ PL.toInt.toNat ≤ 2)) → (cond b 610 874) + (cond b 132 272) * PL.toInt.toNat = B → cond b 132 272 = N → PS X k13 198 255 [.ref 147, .int p1, .int p2, .int PL, .int i4, .int 0] [] w12 r w' → FM ((147, 2) :: rl7) [148, 150, 151] w w' ∧ r = some (.int PL) ∧ ∀ q, al w' q = tlN b PL.toInt.toNat o.2.2.2.1 (al w) (if p2 = -1 then cnt + 1 else cnt) s0 q := by
                intro B N i4 k13 h4 hBN hcB hcN y
                obtain ⟨y1, y2, y3⟩ := L198_255 ePL hBN h4 k13 w12 0 0 f12.2.2.2 z32 (Nat.zero_le _) y
                refine ⟨FM_trans f11 (FM_trans (FM_mono f12 (by decide) (by decide)) (FM_mono y2 (by decide) (by decide))), y1, fun q => ?_⟩
                have er : ∀ j, rcl w12 j = o.2.2.2.1 j := fun j => by
                  have e1 : rcl w12 j = rcl w11 j := by unfold rcl; rw [FM_a f12 (by decide)]
                  have e2 : rcl w11 j = rcl w10 j := by unfold rcl; rw [FM_a c1 (by decide)]
                  rw [e1, e2]
                  exact oc.1 j
                have hB6 : 610 ≤ B := by omega
                rw [y3 q, er, al12, al11]
                unfold tlN
                rw [hcB, hcN, Nat.add_zero, cf, pm1]
                by_cases x2 : q = 2
                · rw [if_neg (by omega), if_neg (by omega), if_neg (by omega), if_neg (by omega), if_pos x2, if_pos x2]
                by_cases x3 : q = 3
                · rw [if_neg (by omega), if_neg (by omega), if_pos x3, if_neg x2, if_pos x3]
                by_cases x4 : q = 4
                · rw [if_neg (by omega), if_neg (by omega), if_neg (by omega), if_pos x4, if_neg x2, if_neg x3, if_pos x4]
                by_cases xs : q = s0
                · rw [if_neg (by omega), if_pos xs, if_neg x2, if_neg x3, if_neg x4, if_pos xs]
                rw [if_neg x2, if_neg x3, if_neg x4, if_neg xs, if_neg x2, if_neg x3, if_neg x4, if_neg xs]
              cases k12 with
              | zero => exact (PS_0 z).elim
              | succ k12 =>
                have z := U198_237 f12.2.2.2 z
                have res : FM ((147, 2) :: rl7) [148, 150, 151] w w' ∧ r = some (.int PL) ∧ ∀ q, al w' q = tlN b PL.toInt.toNat o.2.2.2.1 (al w) (if p2 = -1 then cnt + 1 else cnt) s0 q := by
                  rcases hs with ⟨h1, h2, h3⟩ | ⟨h1, h2, h3⟩
                  · rw [if_pos h1] at z
                    have hbt : b = true := by rw [hb, decide_eq_true h1]
                    exact fin _ 132 132 _ (by decide +kernel) (Or.inl ⟨h1, rfl, rfl, by omega⟩) (by rw [hbt]; rfl) (by rw [hbt]; rfl) z
                  · have h1' : p1 ≠ 0 := by rw [h1]; decide +kernel
                    rw [if_neg h1'] at z
                    have hbt : b = false := by rw [hb, decide_eq_false h1']
                    exact fin _ 272 272 _ (by decide +kernel) (Or.inr ⟨h1', rfl, rfl, by omega⟩) (by rw [hbt]; rfl) (by rw [hbt]; rfl) z
                exact ⟨res.1, Or.inr ⟨e, N, o, b3, Or.inr ⟨cf, res.2.1, s0, cnt, hs, res.2.2⟩⟩⟩
            · rw [if_neg cf] at z
              obtain ⟨z1, z2⟩ := z
              subst w'
              exact ⟨f11, Or.inr ⟨e, N, o, b3, Or.inl ⟨cf, z1, al11⟩⟩⟩
end GMM
