section FMM
variable {X : pm_X} {k : Nat} {w0 w w' : pm_W} {r : Option Value} {p p1 p2 p3 : Int32} {bs : Nat → Int32} {n i : Nat}
/-- the reference reads: its token is that from i on, no form broken, the fault f at p, which lies before the token (or is a 2 at it) -/
def RS (w : pm_W) (bs : Nat → Int32) (n i : Nat) (f p : Int32) : Prop := SK w ∧ gI w 147 8 = 0 ∧ RTk w bs n i ∧ rb w = bs ∧ rn w = n ∧ RB w ∧ qF w = f ∧ qP w = p ∧ (f ≠ 0 → p.toInt < tkS bs n i ∨ (p = pl bs n i ∧ f = 2)) ∧ i ≤ n
/-- the form is broken at the token from i on -/
def BK (w : pm_W) (bs : Nat → Int32) (n i : Nat) : Prop := SK w ∧ gI w 147 8 ≠ 0 ∧ qF w = 1 ∧ qP w = pl bs n i
def rl7 : List (Nat × Nat) := [(147, 3), (147, 4), (147, 5), (147, 6), (147, 7), (147, 8), (147, 9)]
theorem RS_n6 {f : Int32} (h : RS w bs n i f p) : n ≤ 600 := by
  obtain ⟨_, _, _, _, hn, hR, _⟩ := h
  unfold rn at hn
  have := hR.2.1
  omega
theorem RS_pl {f : Int32} (h : RS w bs n i f p) : gI w 147 4 = pl bs n i := by
  have n6 := RS_n6 h
  obtain ⟨_, _, hT, _, _, _, _, _, _, hi⟩ := h
  exact i32_of hT.2.1 (by have := (tkN_n (bs := bs) (n := n) (i := i) hi).1; omega)
theorem pl_i (hn : n ≤ 600) (hi : i ≤ n) : (pl bs n i).toInt = tkS bs n i := ofN_i (by have := (tkN_n (bs := bs) (n := n) (i := i) hi).1; omega)
theorem RS_lt {f : Int32} (h : RS w bs n i f p) (hz : f ≠ 0) : p.toInt < tkS bs n i + 1 := by
  have n6 := RS_n6 h
  obtain ⟨_, _, _, _, _, _, _, _, hlt, hi⟩ := h
  rcases hlt hz with q | ⟨q, _⟩
  · omega
  · rw [q, pl_i n6 hi]; omega
theorem ntP_lt {b : Bool} {kd f q p : Int32} {m m' : Nat} (hq : q.toInt = m) (hm : m < m') (h : f ≠ 0 → p.toInt < m') (hk : ntF b kd f ≠ 0) : (ntP b q f p).toInt < m' := by
  unfold ntF at hk
  unfold ntP
  cases c : (b && decide (f = 0)) with
  | true => show q.toInt < m'; omega
  | false =>
    rw [c] at hk
    exact h hk
/-- on to the next token -/
theorem RS_next {f f2 p2 : Int32} {w1 : pm_W} (h : RS w bs n i f p) (hk : tkK bs n i ≠ 0) (f1 : FM [] [148] w w1) (a1 : AF w w1) (hf : qF w1 = f2) (hp : qP w1 = p2) (hlt : f2 ≠ 0 → p2.toInt < tkS bs n i + 1) (q : PS X k 201 0 [.ref 147, pm_dead, pm_dead] [] w1 r w') : r = none ∧ FM [(147, 3), (147, 4), (147, 5), (147, 6), (147, 7)] [148] w w' ∧ AF w w' ∧ RS w' bs n (tkN bs n i) f2 p2 := by
  obtain ⟨hS, h8, hT, hb, hn, hR, _, _, _, hi⟩ := h
  have hS1 := f1.2.2.2
  have hb1 : rb w1 = bs := (AF_rb a1).trans hb
  have hn1 : rn w1 = n := (rn_FM f1 (by decide)).trans hn
  have hR1 : RB w1 := by
    unfold RB
    rw [FM_i f1 (by decide), rn_FM f1 (by decide), AF_rb a1]
    exact hR
  obtain ⟨z1, z2, z3⟩ := RTk_next hS1 hR1 hb1 hn1 (RTk_FM hT f1 (by decide) (by decide) (by decide) (by decide) (by decide)) q
  have g : gA w' 148 = gA w1 148 := FM_a z2 (by decide)
  have b := tkN_b hk
  have s := tkS_b (bs := bs) (n := n) (i := tkN bs n i)
  refine ⟨z1, FM_trans (FM_mono f1 (by decide) (by decide)) (FM_mono z2 (by decide) (by decide)), AF_trans a1 (AF_eq g), z2.2.2.2, ?_, z3, (rb_FM z2 (by decide)).trans hb1, (rn_FM z2 (by decide)).trans hn1, RB_FM hR1 z2 (by decide) (by decide), ?_, ?_, fun hz => ?_, b.2.2⟩
  · rw [FM_i z2 (by decide), FM_i f1 (by decide)]; exact h8
  · unfold qF; rw [g]; exact hf
  · unfold qP; rw [g]; exact hp
  · have := hlt hz
    omega
theorem F209_B {f : Int32} (h : RS w bs n i f p) (q : PS X k 209 0 [.ref 147] [] w r w') : r = none ∧ FM [(147, 8)] [148] w w' ∧ AF w w' ∧ BK w' bs n i := by
  obtain ⟨z1, z2, z3, z4, _⟩ := F209 h.1 q
  obtain ⟨z5, z6, z7⟩ := z4 h.2.1
  refine ⟨z1, z2, z3, z2.2.2.2, ?_, z6, ?_⟩
  · rw [z5]; decide +kernel
  · rw [z7]; exact RS_pl h
/-- numbered: a number, judged by its limits; or the form breaks -/
theorem F210 {f lo hi : Int32} (h : RS w bs n i f p) (q : PS X k 210 0 [.ref 147, .int lo, .int hi, pm_dead] [] w r w') : (tkK bs n i = 2 ∧ FM [(147, 3), (147, 4), (147, 5), (147, 6), (147, 7)] [148] w w' ∧ AF w w' ∧ ∃ (b : Bool) (x : Int32), (b = true ↔ ¬ (lo.toInt ≤ tkV bs n i ∧ tkV bs n i ≤ hi.toInt)) ∧ RS w' bs n (tkN bs n i) (ntF b 2 f) (ntP b (pl bs n i) f p) ∧ r = some (.int x) ∧ (b = false → x.toInt = tkV bs n i) ∧ (b = true → x = lo)) ∨ (tkK bs n i ≠ 2 ∧ FM [(147, 8)] [148] w w' ∧ AF w w' ∧ BK w' bs n i ∧ r = some (.int lo)) := by
  cases k with
  | zero => exact (PS_0 q).elim
  | succ k =>
    have hh := h
    obtain ⟨hS, h8, hT, hb, hn, hR, hf, hp, hlt, hi2⟩ := h
    have q := U210_0 hS q
    rw [if_pos h8] at q
    by_cases c : gI w 147 5 = 1
    · rw [if_pos c] at q
      rw [hT.1, rTk_1] at c
      have hx := hT.2.2.2.1 c
      have epl := RS_pl hh
      have n6 := RS_n6 hh
      have q := use_p hS q (fun _ _ z => F199 hS z)
      have ein : isI (gI w 147 6) lo hi = true ↔ (lo.toInt ≤ tkV bs n i ∧ tkV bs n i ≤ hi.toInt) := by
        unfold isI
        rw [Bool.and_eq_true, decide_eq_true_iff, decide_eq_true_iff, hx]
      refine Or.inl ⟨c, ?_⟩
      by_cases ci : b2i (isI (gI w 147 6) lo hi) = 0
      · rw [if_pos ci] at q
        rw [b2i_0] at ci
        obtain ⟨r1, w1, q1, q2⟩ := q
        obtain ⟨e1, f1, a1, _, g1⟩ := F211 hS q1
        obtain ⟨g2, g3⟩ := g1 h8
        have q := q2 e1 f1.2.2.2
        -- the fault behind
        have ff : qF w1 = ntF true 2 f ∧ qP w1 = ntP true (pl bs n i) f p := by
          rw [ntF_t, ntP_t, ← epl]
          by_cases c0 : f = 0
          · rw [if_pos c0, if_pos c0]
            exact g3 (fun z => z.1 (hf.trans c0))
          · rw [if_neg c0, if_neg c0, g2 ⟨by rw [hf]; exact c0, by
              rw [hp, hf, epl]
              rcases hlt c0 with y | ⟨y, y2⟩
              · exact Or.inl (by rw [pl_i n6 hi2]; exact y)
              · exact Or.inr ⟨y, by rw [y2]; decide +kernel⟩⟩]
            exact ⟨hf, hp⟩
        obtain ⟨r3, w3, q3, q4⟩ := q
        obtain ⟨z1, z2, z3, z4⟩ := RS_next hh (by rw [c]; decide) f1 a1 ff.1 ff.2 (fun hz => by have := ntP_lt (b := true) (q := pl bs n i) (f := f) (p := p) (m := tkS bs n i) (m' := tkS bs n i + 1) (pl_i n6 hi2) (by omega) (fun y => by have := RS_lt hh y; omega) hz; omega) q3
        have q := q4 z1 z2.2.2.2
        have q := use_p z2.2.2.2 q (fun _ _ z => F199 z2.2.2.2 z)
        rw [ci, if_pos (by decide +kernel)] at q
        rw [q.2]
        refine ⟨z2, z3, true, lo, ?_, z4, q.1, fun z => Bool.noConfusion z, fun _ => rfl⟩
        rw [← ein, ci]
        exact ⟨fun _ z => Bool.noConfusion z, fun _ => rfl⟩
      · rw [if_neg ci] at q
        rw [b2i_0, Bool.not_eq_false] at ci
        obtain ⟨r3, w3, q3, q4⟩ := q
        obtain ⟨z1, z2, z3, z4⟩ := RS_next hh (by rw [c]; decide) (FM_refl hS) AF_refl hf hp (fun hz => RS_lt hh hz) q3
        have q := q4 z1 z2.2.2.2
        have q := use_p z2.2.2.2 q (fun _ _ z => F199 z2.2.2.2 z)
        rw [ci, if_neg (by decide +kernel)] at q
        rw [q.2]
        refine ⟨z2, z3, false, _, ?_, z4, q.1, fun _ => hx, fun z => Bool.noConfusion z⟩
        exact ⟨fun z => Bool.noConfusion z, fun z => absurd (ein.mp ci) z⟩
    · rw [if_neg c] at q
      rw [hT.1, rTk_1] at c
      obtain ⟨r1, w1, q1, q2⟩ := q
      obtain ⟨z1, z2, z3, z4⟩ := F209_B hh q1
      have q := q2 z1 z2.2.2.2
      rw [q.2]
      exact Or.inr ⟨c, z2, z3, z4, q.1⟩
/-- numbered, the form being broken -/
theorem F210_w {lo hi : Int32} (hS : SK w) (h8 : gI w 147 8 ≠ 0) (q : PS X k 210 0 [.ref 147, .int lo, .int hi, pm_dead] [] w r w') : r = some (.int lo) ∧ w' = w := by
  cases k with
  | zero => exact (PS_0 q).elim
  | succ k =>
    have q := U210_0 hS q
    rw [if_neg h8] at q
    obtain ⟨r1, w1, q1, q2⟩ := q
    obtain ⟨z1, z2, z3, _, z4⟩ := F209 hS q1
    have e := z4 h8
    subst w1
    exact q2 z1 hS
/-- takes: a verb of this sort; or the form breaks -/
theorem F208 {f : Int32} (h : RS w bs n i f p) (q : PS X k 208 0 [.ref 147, .int p1, .int p2, pm_dead] [] w r w') : (tkK bs n i = 1 ∧ wdC bs (tkS bs n i) (tkN bs n i) ≠ 99 ∧ p1.toInt ≤ (wdC bs (tkS bs n i) (tkN bs n i)).toInt ∧ (wdC bs (tkS bs n i) (tkN bs n i)).toInt ≤ p2.toInt ∧ FM [(147, 3), (147, 4), (147, 5), (147, 6), (147, 7)] [148] w w' ∧ AF w w' ∧ RS w' bs n (tkN bs n i) f p ∧ r = some (.int (wdC bs (tkS bs n i) (tkN bs n i)))) ∨ (¬ (tkK bs n i = 1 ∧ wdC bs (tkS bs n i) (tkN bs n i) ≠ 99 ∧ p1.toInt ≤ (wdC bs (tkS bs n i) (tkN bs n i)).toInt ∧ (wdC bs (tkS bs n i) (tkN bs n i)).toInt ≤ p2.toInt) ∧ FM [(147, 8)] [148] w w' ∧ AF w w' ∧ BK w' bs n i ∧ r = some (.int 0)) := by
  cases k with
  | zero => exact (PS_0 q).elim
  | succ k =>
    have hh := h
    obtain ⟨hS, h8, hT, hb, hn, hR, hf, hp, hlt, hi2⟩ := h
    have q := U208_0 hS q
    rw [if_pos h8] at q
    by_cases c : gI w 147 5 = 3
    · rw [if_pos c] at q
      rw [hT.1, rTk_3] at c
      have ew := hT.2.2.2.2 c.1
      have q := use_p hS q (fun _ _ z => F199 hS z)
      rw [ew] at q
      have ein : isI (wdC bs (tkS bs n i) (tkN bs n i)) p1 p2 = true ↔ (p1.toInt ≤ (wdC bs (tkS bs n i) (tkN bs n i)).toInt ∧ (wdC bs (tkS bs n i) (tkN bs n i)).toInt ≤ p2.toInt) := by
        unfold isI
        rw [Bool.and_eq_true, decide_eq_true_iff, decide_eq_true_iff]
      by_cases ci : b2i (isI (wdC bs (tkS bs n i) (tkN bs n i)) p1 p2) = 0
      · rw [if_pos ci] at q
        rw [b2i_0] at ci
        obtain ⟨r1, w1, q1, q2⟩ := q
        obtain ⟨z1, z2, z3, z4⟩ := F209_B hh q1
        have q := q2 z1 z2.2.2.2
        rw [q.2]
        refine Or.inr ⟨fun z => ?_, z2, z3, z4, q.1⟩
        rw [ein.mpr ⟨z.2.2.1, z.2.2.2⟩] at ci
        exact Bool.noConfusion ci
      · rw [if_neg ci] at q
        rw [b2i_0, Bool.not_eq_false, ein] at ci
        obtain ⟨r3, w3, q3, q4⟩ := q
        obtain ⟨z1, z2, z3, z4⟩ := RS_next hh (by rw [c.1]; decide) (FM_refl hS) AF_refl hf hp (fun hz => RS_lt hh hz) q3
        have q := q4 z1 z2.2.2.2
        rw [q.2]
        exact Or.inl ⟨c.1, c.2, ci.1, ci.2, z2, z3, z4, q.1⟩
    · rw [if_neg c] at q
      rw [hT.1, rTk_3] at c
      obtain ⟨r1, w1, q1, q2⟩ := q
      obtain ⟨z1, z2, z3, z4⟩ := F209_B hh q1
      have q := q2 z1 z2.2.2.2
      rw [q.2]
      exact Or.inr ⟨fun z => c ⟨z.1, z.2.1⟩, z2, z3, z4, q.1⟩
/-- the line's end -/
theorem F214 {f : Int32} (h : RS w bs n i f p) (q : PS X k 214 0 [.ref 147] [] w r w') : r = none ∧ ((tkK bs n i = 3 ∧ FM [(147, 3), (147, 4), (147, 5), (147, 6), (147, 7)] [148] w w' ∧ AF w w' ∧ RS w' bs n (tkN bs n i) f p) ∨ (tkK bs n i ≠ 3 ∧ FM [(147, 8)] [148] w w' ∧ AF w w' ∧ BK w' bs n i)) := by
  cases k with
  | zero => exact (PS_0 q).elim
  | succ k =>
    have hh := h
    obtain ⟨hS, h8, hT, hb, hn, hR, hf, hp, hlt, hi2⟩ := h
    have q := U214_0 hS q
    rw [if_pos h8] at q
    by_cases c : gI w 147 5 = 2
    · rw [if_pos c] at q
      rw [hT.1, rTk_2] at c
      obtain ⟨r3, w3, q3, q4⟩ := q
      obtain ⟨z1, z2, z3, z4⟩ := RS_next hh (by rw [c]; decide) (FM_refl hS) AF_refl hf hp (fun hz => RS_lt hh hz) q3
      have q := q4 z1 z2.2.2.2
      rw [q.2]
      exact ⟨q.1, Or.inl ⟨c, z2, z3, z4⟩⟩
    · rw [if_neg c] at q
      rw [hT.1, rTk_2] at c
      obtain ⟨r1, w1, q1, q2⟩ := q
      obtain ⟨z1, z2, z3, z4⟩ := F209_B hh q1
      have q := q2 z1 z2.2.2.2
      rw [q.2]
      exact ⟨q.1, Or.inr ⟨c, z2, z3, z4⟩⟩
theorem F214_w (hS : SK w) (h8 : gI w 147 8 ≠ 0) (q : PS X k 214 0 [.ref 147] [] w r w') : r = none ∧ w' = w := by
  cases k with
  | zero => exact (PS_0 q).elim
  | succ k =>
    have q := U214_0 hS q
    rw [if_neg h8] at q
    obtain ⟨r1, w1, q1, q2⟩ := q
    obtain ⟨z1, z2, z3, _, z4⟩ := F209 hS q1
    have e := z4 h8
    subst w1
    exact q2 z1 hS
/-- a person: twice as the one before, or none of nine, is a fault -/
theorem F212 {f than : Int32} (h : RS w bs n i f p) (q : PS X k 212 0 [.ref 147, .int than, pm_dead] [] w r w') : (tkK bs n i = 2 ∧ FM rl7 [148] w w' ∧ AF w w' ∧ ∃ (b : Bool) (x : Int32), (b = true ↔ (tkV bs n i = than.toInt ∨ ¬ (0 ≤ tkV bs n i ∧ tkV bs n i ≤ 8))) ∧ RS w' bs n (tkN bs n i) (ntF b 2 f) (ntP b (pl bs n i) f p) ∧ r = some (.int x) ∧ (b = false → x.toInt = tkV bs n i) ∧ (0 ≤ x.toInt ∧ x.toInt ≤ 8) ∧ gI w' 147 9 = (if x ≤ gI w 147 9 then gI w 147 9 else x)) ∨ (tkK bs n i ≠ 2 ∧ FM rl7 [148] w w' ∧ AF w w' ∧ BK w' bs n i ∧ ∃ x : Int32, r = some (.int x)) := by
  cases k with
  | zero => exact (PS_0 q).elim
  | succ k =>
    have hh := h
    have n6 := RS_n6 hh
    have epl := RS_pl hh
    obtain ⟨hS, h8, hT, hb, hn, hR, hf, hp, hlt, hi2⟩ := h
    have q := U212_0 hS q
    -- behind numbered
    have fin : ∀ (w2 : pm_W) (x : Int32), SK w2 → (if x ≤ (gI w2 147 9) then (∀ w9 : pm_W, w9 = sI w2 147 9 (gI w2 147 9) → (r = some (.int x) ∧ w' = w9)) else (∀ w10 : pm_W, w10 = sI w2 147 9 x → (r = some (.int x) ∧ w' = w10))) → r = some (.int x) ∧ FM [(147, 9)] [] w2 w' ∧ gI w' 147 9 = (if x ≤ gI w2 147 9 then gI w2 147 9 else x) := by
      intro w2 x hS2 z
      by_cases c : x ≤ gI w2 147 9
      · rw [if_pos c] at z
        rw [if_pos c]
        obtain ⟨z1, z2⟩ := z _ rfl
        rw [z2]
        exact ⟨z1, FM_sI hS2 (by decide), gI_sI (SK_isF hS2 (by decide +kernel))⟩
      · rw [if_neg c] at z
        rw [if_neg c]
        obtain ⟨z1, z2⟩ := z _ rfl
        rw [z2]
        exact ⟨z1, FM_sI hS2 (by decide), gI_sI (SK_isF hS2 (by decide +kernel))⟩
    have e8 : (8 : Int32).toInt = 8 := eight32
    -- numbered from a state w1, then the greatest
    have num : ∀ (w1 : pm_W) (f1 p1 : Int32), RS w1 bs n i f1 p1 → FM [] [148] w w1 → AF w w1 → ∀ (r6 : Option Value) (w7 : pm_W), PS X k 210 0 [.ref 147, .int 0, .int 8, pm_dead] [] w1 r6 w7 → (∀ x8 : Int32, r6 = some (.int x8) → SK w7 → (if x8 ≤ (gI w7 147 9) then (∀ w9 : pm_W, w9 = sI w7 147 9 (gI w7 147 9) → (r = some (.int x8) ∧ w' = w9)) else (∀ w10 : pm_W, w10 = sI w7 147 9 x8 → (r = some (.int x8) ∧ w' = w10)))) → (tkK bs n i = 2 ∧ FM rl7 [148] w w' ∧ AF w w' ∧ ∃ (b : Bool) (x : Int32), (b = true ↔ ¬ (0 ≤ tkV bs n i ∧ tkV bs n i ≤ 8)) ∧ RS w' bs n (tkN bs n i) (ntF b 2 f1) (ntP b (pl bs n i) f1 p1) ∧ r = some (.int x) ∧ (b = false → x.toInt = tkV bs n i) ∧ (0 ≤ x.toInt ∧ x.toInt ≤ 8) ∧ gI w' 147 9 = (if x ≤ gI w 147 9 then gI w 147 9 else x)) ∨ (tkK bs n i ≠ 2 ∧ FM rl7 [148] w w' ∧ AF w w' ∧ BK w' bs n i ∧ ∃ x : Int32, r = some (.int x)) := by
      intro w1 f1 p1 h1 fm1 a1 r6 w7 q6 q7
      rcases F210 h1 q6 with ⟨z1, z2, z3, b, x, z4, z5, z6, z7, z8⟩ | ⟨z1, z2, z3, z4, z5⟩
      · obtain ⟨y1, y2, y3⟩ := fin w7 x z2.2.2.2 (q7 x z6 z2.2.2.2)
        have fa : FM rl7 [148] w w' := FM_trans (FM_mono fm1 (by decide) (by decide)) (FM_trans (FM_mono z2 (by decide) (by decide)) (FM_mono y2 (by decide) (by decide)))
        have ga : gA w' 148 = gA w7 148 := FM_a y2 (by decide)
        rw [z32, e8] at z4
        refine Or.inl ⟨z1, fa, AF_trans (AF_trans a1 z3) (AF_eq ga), b, x, z4, ?_, y1, z7, ?_, ?_⟩
        · obtain ⟨s1, s2, s3, s4, s5, s6, s7, s8, s9, s10⟩ := z5
          refine ⟨y2.2.2.2, by rw [FM_i y2 (by decide)]; exact s2, RTk_FM s3 y2 (by decide) (by decide) (by decide) (by decide) (by decide), (rb_FM y2 (by decide)).trans s4, (rn_FM y2 (by decide)).trans s5, RB_FM s6 y2 (by decide) (by decide), ?_, ?_, s9, s10⟩
          · unfold qF; rw [ga]; exact s7
          · unfold qP; rw [ga]; exact s8
        · cases b with
          | true => rw [z8 rfl, z32]; omega
          | false =>
            rw [z7 rfl]
            have := Classical.not_not.mp (fun y => Bool.noConfusion (z4.mpr y) : ¬ ¬ (0 ≤ tkV bs n i ∧ tkV bs n i ≤ 8))
            exact this
        · rw [y3, FM_i z2 (by decide), FM_i fm1 (by decide)]
      · obtain ⟨y1, y2, y3⟩ := fin w7 0 z2.2.2.2 (q7 0 z5 z2.2.2.2)
        have fa : FM rl7 [148] w w' := FM_trans (FM_mono fm1 (by decide) (by decide)) (FM_trans (FM_mono z2 (by decide) (by decide)) (FM_mono y2 (by decide) (by decide)))
        have ga : gA w' 148 = gA w7 148 := FM_a y2 (by decide)
        refine Or.inr ⟨z1, fa, AF_trans (AF_trans a1 z3) (AF_eq ga), ?_, 0, y1⟩
        obtain ⟨s1, s2, s3, s4⟩ := z4
        exact ⟨y2.2.2.2, by rw [FM_i y2 (by decide)]; exact s2, by unfold qF; rw [ga]; exact s3, by unfold qP; rw [ga]; exact s4⟩
    by_cases c : gI w 147 5 = 1
    · rw [if_pos c] at q
      rw [hT.1, rTk_1] at c
      have hx := hT.2.2.2.1 c
      by_cases ct : gI w 147 6 = than
      · rw [if_pos ct] at q
        obtain ⟨r1, w1, q1, q2⟩ := q
        obtain ⟨e1, f1, a1, _, g1⟩ := F211 hS q1
        obtain ⟨g2, g3⟩ := g1 h8
        obtain ⟨r3, w3, q3, q4⟩ := q2 e1 f1.2.2.2
        have ff : qF w1 = ntF true 2 f ∧ qP w1 = ntP true (pl bs n i) f p := by
          rw [ntF_t, ntP_t, ← epl]
          by_cases c0 : f = 0
          · rw [if_pos c0, if_pos c0]
            exact g3 (fun z => z.1 (hf.trans c0))
          · rw [if_neg c0, if_neg c0, g2 ⟨by rw [hf]; exact c0, by
              rw [hp, hf, epl]
              rcases hlt c0 with y | ⟨y, y2⟩
              · exact Or.inl (by rw [pl_i n6 hi2]; exact y)
              · exact Or.inr ⟨y, by rw [y2]; decide +kernel⟩⟩]
            exact ⟨hf, hp⟩
        have r1' : RS w1 bs n i (ntF true 2 f) (ntP true (pl bs n i) f p) := by
          refine ⟨f1.2.2.2, by rw [FM_i f1 (by decide)]; exact h8, RTk_FM hT f1 (by decide) (by decide) (by decide) (by decide) (by decide), (AF_rb a1).trans hb, (rn_FM f1 (by decide)).trans hn, ?_, ff.1, ff.2, fun hz => ?_, hi2⟩
          · unfold RB
            rw [FM_i f1 (by decide), rn_FM f1 (by decide), AF_rb a1]
            exact hR
          · rw [ntF_t, ntP_t]
            by_cases c0 : f = 0
            · rw [if_pos c0, if_pos c0]
              exact Or.inr ⟨rfl, rfl⟩
            · rw [if_neg c0, if_neg c0]
              exact hlt c0
        rcases num w1 _ _ r1' f1 a1 r3 w3 q3 q4 with ⟨z1, z2, z3, b, x, z4, z5, z6, z7, z8, z9⟩ | z
        · refine Or.inl ⟨z1, z2, z3, true, x, ⟨fun _ => Or.inl (by rw [← hx, ct]), fun _ => rfl⟩, ?_, z6, fun y => Bool.noConfusion y, z8, z9⟩
          have e1 : ntF b 2 (ntF true 2 f) = ntF true 2 f := by
            unfold ntF
            have : ntF true 2 f ≠ 0 := by
              rw [ntF_t]
              by_cases c0 : f = 0
              · rw [if_pos c0]; decide +kernel
              · rw [if_neg c0]; exact c0
            unfold ntF at this
            rw [decide_eq_false this, Bool.and_false]
            rfl
          have e2 : ntP b (pl bs n i) (ntF true 2 f) (ntP true (pl bs n i) f p) = ntP true (pl bs n i) f p := by
            have : ntF true 2 f ≠ 0 := by
              rw [ntF_t]
              by_cases c0 : f = 0
              · rw [if_pos c0]; decide +kernel
              · rw [if_neg c0]; exact c0
            show cond (b && decide (ntF true 2 f = 0)) _ _ = _
            rw [decide_eq_false this, Bool.and_false]
            rfl
          rw [e1, e2] at z5
          exact z5
        · exact Or.inr z
      · rw [if_neg ct] at q
        obtain ⟨r3, w3, q3, q4⟩ := q
        rcases num w _ _ hh (FM_refl hS) AF_refl r3 w3 q3 q4 with ⟨z1, z2, z3, b, x, z4, z5, z6, z7, z8, z9⟩ | z
        · refine Or.inl ⟨z1, z2, z3, b, x, ⟨fun y => Or.inr (z4.mp y), fun y => ?_⟩, z5, z6, z7, z8, z9⟩
          rcases y with y | y
          · exact absurd (Int32.toInt_inj.mp (hx.trans y)) ct
          · exact z4.mpr y
        · exact Or.inr z
    · rw [if_neg c] at q
      rw [hT.1, rTk_1] at c
      obtain ⟨r3, w3, q3, q4⟩ := q
      rcases num w _ _ hh (FM_refl hS) AF_refl r3 w3 q3 q4 with ⟨z1, _⟩ | z
      · exact absurd z1 c
      · exact Or.inr z
/-- a person, the form being broken -/
theorem F212_w {than : Int32} (hS : SK w) (h8 : gI w 147 8 ≠ 0) (q : PS X k 212 0 [.ref 147, .int than, pm_dead] [] w r w') : ∃ x : Int32, r = some (.int x) ∧ FM rl7 [148] w w' ∧ gA w' 148 = gA w 148 ∧ gI w' 147 8 = gI w 147 8 := by
  cases k with
  | zero => exact (PS_0 q).elim
  | succ k =>
    have q := U212_0 hS q
    have fin : ∀ (w2 : pm_W) (x : Int32), SK w2 → (if x ≤ (gI w2 147 9) then (∀ w9 : pm_W, w9 = sI w2 147 9 (gI w2 147 9) → (r = some (.int x) ∧ w' = w9)) else (∀ w10 : pm_W, w10 = sI w2 147 9 x → (r = some (.int x) ∧ w' = w10))) → r = some (.int x) ∧ FM [(147, 9)] [] w2 w' := by
      intro w2 x hS2 z
      by_cases c : x ≤ gI w2 147 9
      · rw [if_pos c] at z
        obtain ⟨z1, z2⟩ := z _ rfl
        rw [z2]
        exact ⟨z1, FM_sI hS2 (by decide)⟩
      · rw [if_neg c] at z
        obtain ⟨z1, z2⟩ := z _ rfl
        rw [z2]
        exact ⟨z1, FM_sI hS2 (by decide)⟩
    have num : ∀ (r6 : Option Value) (w7 : pm_W), PS X k 210 0 [.ref 147, .int 0, .int 8, pm_dead] [] w r6 w7 → (∀ x8 : Int32, r6 = some (.int x8) → SK w7 → (if x8 ≤ (gI w7 147 9) then (∀ w9 : pm_W, w9 = sI w7 147 9 (gI w7 147 9) → (r = some (.int x8) ∧ w' = w9)) else (∀ w10 : pm_W, w10 = sI w7 147 9 x8 → (r = some (.int x8) ∧ w' = w10)))) → ∃ x : Int32, r = some (.int x) ∧ FM rl7 [148] w w' ∧ gA w' 148 = gA w 148 ∧ gI w' 147 8 = gI w 147 8 := by
      intro r6 w7 q6 q7
      obtain ⟨e1, e2⟩ := F210_w hS h8 q6
      subst w7
      obtain ⟨y1, y2⟩ := fin w 0 hS (q7 0 e1 hS)
      exact ⟨0, y1, FM_mono y2 (by decide) (by decide), FM_a y2 (by decide), FM_i y2 (by decide)⟩
    by_cases c : gI w 147 5 = 1
    · rw [if_pos c] at q
      by_cases ct : gI w 147 6 = than
      · rw [if_pos ct] at q
        obtain ⟨r1, w1, q1, q2⟩ := q
        obtain ⟨e1, f1, a1, g0, g1⟩ := F211 hS q1
        have e := g0 h8
        subst w1
        obtain ⟨r3, w3, q3, q4⟩ := q2 e1 hS
        exact num r3 w3 q3 q4
      · rw [if_neg ct] at q
        obtain ⟨r3, w3, q3, q4⟩ := q
        exact num r3 w3 q3 q4
    · rw [if_neg c] at q
      obtain ⟨r3, w3, q3, q4⟩ := q
      exact num r3 w3 q3 q4
end FMM
