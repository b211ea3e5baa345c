/-! ===== need on both sides ===== -/
section KHA
variable {X : pm_X} {k k2 : Nat} {w0 w w1 w2 wj wk w' : pm_W} {r r2 q0 q1 : Option Value} {p1 p2 p3 p4 p5 i1 i2 i3 i4 i5 i6 i7 z z1 z2 x y v : Int32} {a b c i j m u P W t s d q N : Nat} {e K δ : Int} {u3 u4 u5 u7 : Value} {A B : Nat → Nat} {n : Nat → Int} {s1 t1 t2 : SN} {cs : List Int32}
theorem ps_su : ∀ cs : List Int32, (ps cs : Int) = suI (fun j => psI ((cs.getD j 0).toInt)) cs.length
  | [] => rfl
  | c :: cs => by
    show ((c.toInt.toNat + ps cs : Nat) : Int) = suI (fun j => psI (((c :: cs).getD j 0).toInt)) (cs.length + 1)
    rw [su_shift]
    show _ = psI c.toInt + suI (fun j => psI ((cs.getD j 0).toInt)) cs.length
    rw [← ps_su cs]
    unfold psI
    omega
theorem sm_su : ∀ cs : List Int32, sm cs = suI (fun j => (cs.getD j 0).toInt) cs.length
  | [] => rfl
  | c :: cs => by
    show c.toInt + sm cs = suI (fun j => ((c :: cs).getD j 0).toInt) (cs.length + 1)
    rw [su_shift, sm_su cs]
    rfl
/-- nobody has more, all are even: each is even -/
theorem ov_z (h1 : ps cs = 0) (h2 : sm cs = 0) : ∀ j, j < cs.length → (cs.getD j 0).toInt = 0 := by
  have a := ps_su cs
  have b := sm_su cs
  rw [h1] at a
  rw [h2] at b
  have p := su_z (f := fun j => psI ((cs.getD j 0).toInt)) cs.length (fun j _ => by show 0 ≤ psI ((cs.getD j 0).toInt); unfold psI; omega) (by rw [← a]; exact Int.le_refl _)
  intro j hj
  have c := su_z (f := fun j => -(cs.getD j 0).toInt) cs.length (fun j hj => by
    have := p j hj
    show 0 ≤ -(cs.getD j 0).toInt
    unfold psI at this
    omega) (by rw [suI_neg, ← b]; exact Int.le_refl _) j hj
  have c : -(cs.getD j 0).toInt = 0 := c
  omega
/-- what the words grow by -/
theorem F297 (hS : SK w) (hB : bnD w) (hp : (aG w 148 p1).toInt = P) (hP9 : P ≤ 9) (h : PS X k 297 0 [.ref 147, .int p1, pm_dead, pm_dead, pm_dead] [] w r w') : ∃ z : Int32, z.toInt = grF (moR w) (loR w) (fwR w) P ∧ r = some (.int z) ∧ w' = w := by
  obtain ⟨g, hg⟩ : ∃ g : Nat → Nat → Int, g = fun a b => if a = b then 0 else psI (loR w a b + fwR w a b - moR w a b) := ⟨_, rfl⟩
  have gb : ∀ a b, a < 10 → b < 10 → 0 ≤ g a b ∧ g a b ≤ 21000 := fun a b ha hb => by
    rw [hg]
    have q := hB a b ha hb
    show 0 ≤ (if a = b then 0 else psI (loR w a b + fwR w a b - moR w a b)) ∧ (if a = b then 0 else psI (loR w a b + fwR w a b - moR w a b)) ≤ 21000
    unfold psI
    split <;> omega
  have ib : ∀ a t : Nat, a < 10 → t ≤ 10 → 0 ≤ suI (g a) t ∧ suI (g a) t ≤ 21000 * t := by
    intro a t ha
    induction t with
    | zero => intro _; exact ⟨Int.le_refl _, by show (0 : Int) ≤ 21000 * ((0 : Nat) : Int); omega⟩
    | succ t ih =>
      intro ht
      have q := ih (by omega)
      have q2 := gb a t ha (by omega)
      show 0 ≤ suI (g a) t + g a t ∧ suI (g a) t + g a t ≤ 21000 * ((t + 1 : Nat) : Int)
      omega
  have ob : ∀ t : Nat, t ≤ 9 → 0 ≤ suI (fun a => suI (g a) P) t ∧ suI (fun a => suI (g a) P) t ≤ 189000 * t := by
    intro t
    induction t with
    | zero => intro _; exact ⟨Int.le_refl _, by show (0 : Int) ≤ 189000 * ((0 : Nat) : Int); omega⟩
    | succ t ih =>
      intro ht
      have q := ih (by omega)
      have q2 := ib t P (by omega) (by omega)
      show 0 ≤ suI (fun a => suI (g a) P) t + suI (g t) P ∧ suI (fun a => suI (g a) P) t + suI (g t) P ≤ 189000 * ((t + 1 : Nat) : Int)
      omega
  have eg : grF (moR w) (loR w) (fwR w) P = suI (fun a => suI (g a) P) P := by rw [hg]; rfl
  rw [eg]
  have lp : ∀ k : Nat, (∀ (t : Nat) (i2 i3 : Int32) (u4 : Value), i3.toInt = t → t ≤ P → i2.toInt = suI (fun a => suI (g a) P) t → PS X k 297 4 [.ref 147, .int p1, .int i2, .int i3, u4] [] w r w' → ∃ z : Int32, z.toInt = suI (fun a => suI (g a) P) P ∧ r = some (.int z) ∧ w' = w) ∧
      (∀ (t s : Nat) (i2 i3 i4 : Int32), i3.toInt = t → t < P → i4.toInt = s → s ≤ P → i2.toInt = suI (fun a => suI (g a) P) t + suI (g t) s → PS X k 297 17 [.ref 147, .int p1, .int i2, .int i3, .int i4] [] w r w' → ∃ z : Int32, z.toInt = suI (fun a => suI (g a) P) P ∧ r = some (.int z) ∧ w' = w) := by
    intro k
    induction k with
    | zero => exact ⟨fun _ _ _ _ _ _ _ h => (PS_0 h).elim, fun _ _ _ _ _ _ _ _ _ _ h => (PS_0 h).elim⟩
    | succ k ih =>
      obtain ⟨ih4, ih17⟩ := ih
      refine ⟨fun t i2 i3 u4 h3 ht h2 h => ?_, fun t s i2 i3 i4 h3 ht h4 hs h2 h => ?_⟩
      · obtain ⟨_, h⟩ := U297_4 hS h
        by_cases c : aG w 148 p1 ≤ i3
        · rw [if_pos c] at h
          rw [Int32.le_iff_toInt_le, hp, h3] at c
          rw [show t = P by omega] at h2
          exact ⟨i2, h2, h⟩
        · rw [if_neg c] at h
          rw [Int32.le_iff_toInt_le, hp, h3] at c
          exact ih17 t 0 i2 i3 0 h3 (by omega) z32 (Nat.zero_le _) (by rw [h2]; show _ = _ + 0; omega) h
      · obtain ⟨_, h⟩ := U297_17 hS h
        by_cases c : aG w 148 p1 ≤ i4
        · rw [if_pos c] at h
          rw [Int32.le_iff_toInt_le, hp, h4] at c
          rw [show s = P by omega] at h2
          exact ih4 (t + 1) i2 _ _ (by rw [zi_inc (n := 40) (by omega) (by omega), h3]; rfl) (by omega) h2 h
        · rw [if_neg c] at h
          rw [Int32.le_iff_toInt_le, hp, h4] at c
          have es : (i4 + 1).toInt = ((s + 1 : Nat) : Int) := by rw [zi_inc (n := 40) (by omega) (by omega), h4]; rfl
          have b1 := ib t s (by omega) (by omega)
          have b2 := ob t (by omega)
          have b3 := gb t s (by omega) (by omega)
          have s1 : suI (g t) (s + 1) = suI (g t) s + g t s := rfl
          have a0 : (i2 + 0).toInt = i2.toInt := by rw [zi_add rfl z32 (by omega) (by omega)]; omega
          by_cases c1 : i3 = i4
          · rw [if_pos c1] at h
            have ets : t = s := by rw [c1, h4] at h3; omega
            have g0 : g t s = 0 := by rw [hg]; exact if_pos ets
            exact ih17 t (s + 1) _ i3 _ h3 ht es (by omega) (by rw [a0, h2, s1, g0]; omega) h
          · rw [if_neg c1] at h
            have nts : t ≠ s := fun e => c1 (Int32.toInt_inj.mp (by rw [h3, h4, e]))
            obtain ⟨zw, hw, h⟩ := use_z hS h (fun _ _ y => F296 hS hB h3 h4 (by omega) (by omega) y)
            rw [wv_n] at hw
            have bb := hB t s (by omega) (by omega)
            have gv : g t s = psI (loR w t s + fwR w t s - moR w t s) := by rw [hg]; exact if_neg nts
            by_cases c2 : 0 ≤ zw
            · rw [if_pos c2] at h
              rw [Int32.le_iff_toInt_le, z32, hw] at c2
              exact ih17 t (s + 1) _ i3 _ h3 ht es (by omega) (by rw [a0, h2, s1, gv]; unfold psI; omega) h
            · rw [if_neg c2] at h
              rw [Int32.le_iff_toInt_le, z32, hw] at c2
              obtain ⟨z6, hw6, h⟩ := use_z hS h (fun _ _ y => F296 hS hB h3 h4 (by omega) (by omega) y)
              rw [wv_n] at hw6
              refine ih17 t (s + 1) _ i3 _ h3 ht es (by omega) ?_ h
              rw [zi_add h2 (zi_neg hw6 (by omega) (by omega)) (by omega) (by omega), s1, gv]
              unfold psI
              omega
  cases k with
  | zero => exact (PS_0 h).elim
  | succ k => exact (lp k).1 0 0 0 _ z32 (Nat.zero_le _) z32 (U297_0 hS h)
/-- the rooms laid out, the units sent, the growth -/
theorem F293_44 (hS : SK w) (hV : WSR w0 u P W A B n) (P1 : 1 ≤ P) (hAB : ∀ κ, κ < W → A κ ≠ B κ) (f0 : FM [] [160, 161, 162, 163] w0 w) (hp : i5.toInt = (610 + 132 * u : Nat)) (hl : ∀ i j, i < 10 → j < 10 → loR w i j = askS A B n s W i j) (ho : ∀ p, p < 10 → ovR w p = surS A B n s W p) (hz : ∀ i j, i < 10 → j < 10 → moR w i j = 0 ∧ fwR w i j = 0) (h : PS X k 293 44 [.ref 147, .int i1, .int i2, .int i3, .int i4, .int i5, .int 0, u7] [] w r w') : ∃ z : Int32, r = some (.int z) ∧ LKS (rmA w0 u) P W A B n s z.toInt := by
  obtain ⟨hu, hP, hP9, hW, hW7, hw, hR⟩ := id hV
  have hn : ∀ κ, κ < W → 1 ≤ n κ ∧ n κ ≤ 99 := fun κ hκ => (hw κ hκ).2.2.2.2.2
  have hAB2 : ∀ κ, κ < W → A κ < P ∧ B κ < P := fun κ hκ => ⟨(hw κ hκ).2.2.2.1, (hw κ hκ).2.2.2.2.1⟩
  have ab : ∀ i j, 0 ≤ askS A B n s W i j ∧ askS A B n s W i j ≤ 693 := fun i j => by
    have := ask_b (A := A) (B := B) (s := s) (i := i) (j := j) hn W (Nat.le_refl _)
    omega
  have sb : ∀ p, -693 ≤ surS A B n s W p ∧ surS A B n s W p ≤ 693 := fun p => by
    have := sur_b (A := A) (B := B) (s := s) (p := p) hn W (Nat.le_refl _)
    omega
  have e0 : al w = al w0 := al_FM f0 (by decide)
  have er : rmA w u = rmA w0 u := rmA_fm f0 (by decide) (by decide)
  have hPk : ∀ {fs : List (Nat × Nat)} {as : List Nat} {wk : pm_W}, FM fs as w wk → 148 ∉ as → (aG wk 148 i5).toInt = P := fun f h8 => by
    rw [aG_n hp]
    show (al _ _).toInt = P
    rw [al_FM f h8, e0]
    exact hP
  -- behind the rooms
  have tail : ∀ (k : Nat) (wk : pm_W) , FM [] [161] w wk → (∀ i j, i < 10 → j < 10 → moR wk i j = if i < P ∧ j < P then rmA w0 u i j else 0) → PS X k 293 112 [.ref 147, .int i1, .int i2, .int i3, .int i4, .int i5, .int 0, .int 0] [] wk r w' → ∃ z : Int32, r = some (.int z) ∧ LKS (rmA w0 u) P W A B n s z.toInt := by
    intro k wk fm hm h
    have S1 : SK wk := fm.2.2.2
    have el : loR wk = loR w := lo_fm fm (by decide)
    have ef : fwR wk = fwR w := fw_fm fm (by decide)
    have eo : ovR wk = ovR w := ov_fm fm (by decide)
    have mb : ∀ i j, i < 10 → j < 10 → 0 ≤ moR wk i j ∧ moR wk i j ≤ 99 := fun i j hi hj => by
      rw [hm i j hi hj]
      by_cases c : i < P ∧ j < P
      · rw [if_pos c]; exact hR i j c.1 c.2
      · rw [if_neg c]; omega
    have l10 : (gA wk 163).length = 10 := l163 S1
    have psu : (ps (gA wk 163) : Int) = suI (fun j => psI (ovR wk j)) 10 := by
      have q := ps_su (gA wk 163)
      rw [l10] at q
      exact q
    -- at the start no flow is
    have cell : ∀ (j : Int), 0 ≤ j → j < 100 → ∃ a b : Nat, a < 10 ∧ b < 10 ∧ j = 10 * (a : Int) + (b : Int) := fun j j0 j1 => ⟨(j / 10).toNat, (j % 10).toNat, by omega, by omega, by omega⟩
    have psb : (ps (gA wk 163) : Int) ≤ 6930 := by
      rw [psu]
      have q := suI_le (f := fun j => psI (ovR wk j)) (g := fun _ => 693) 10 (fun j hj => by
        show psI (ovR wk j) ≤ 693
        rw [eo, ho j hj]
        have := sb j
        unfold psI
        omega)
      have : suI (fun _ => (693 : Int)) 10 = 6930 := by decide
      omega
    have smz : sm (gA wk 163) = 0 := by
      rw [sm_su, l10]
      have q : suI (fun j => ((gA wk 163).getD j 0).toInt) 10 = suI (fun p => surS A B n s W p) 10 := suI_cg 10 (fun j hj => by
        show ovR wk j = _
        rw [eo]
        exact ho j hj)
      rw [q]
      have z : ∀ t, t ≤ W → suI (fun p => surS A B n s t p) 10 = 0 := by
        intro t
        induction t with
        | zero => intro _; exact suI_z 10 (fun _ _ => rfl)
        | succ t ih =>
          intro ht
          have e : suI (fun p => surS A B n s (t + 1) p) 10 = suI (fun p => surS A B n s t p + (if s.testBit t = true then (if B t = p then n t else 0) - (if A t = p then n t else 0) else 0)) 10 := suI_cg 10 (fun p _ => sur_s)
          rw [e, suI_add, ih (by omega)]
          have q := hAB2 t (by omega)
          by_cases c : s.testBit t = true
          · rw [show suI (fun p => if s.testBit t = true then (if B t = p then n t else 0) - (if A t = p then n t else 0) else 0) 10 = suI (fun p => (if p = B t then n t else 0) - (if p = A t then n t else 0)) 10 from suI_cg 10 (fun p _ => by
              show (if s.testBit t = true then (if B t = p then n t else 0) - (if A t = p then n t else 0) else 0) = _
              rw [if_pos c]
              show (if B t = p then n t else 0) - (if A t = p then n t else 0) = (if p = B t then n t else 0) - (if p = A t then n t else 0)
              congr 1
              · by_cases e : p = B t
                · rw [if_pos e, if_pos e.symm]
                · rw [if_neg e, if_neg (fun z => e z.symm)]
              · by_cases e : p = A t
                · rw [if_pos e, if_pos e.symm]
                · rw [if_neg e, if_neg (fun z => e z.symm)]), suI_sub, suI_one 10 (by omega), suI_one 10 (by omega)]
            omega
          · rw [suI_z 10 (fun p _ => if_neg c)]
            rfl
      exact z W (Nat.le_refl W)
    have G0 : GJ (gA wk) P := by
      refine ⟨fun j j0 j1 => ?_, ⟨fun j j0 j1 => ?_, fun j pj j0 j1 => ?_, smz⟩, fun _ => 0, fun a b a0 a1 b0 b1 hab => ?_, fun _ _ _ => by show (-1000 : Int) ≤ 0; decide, fun _ _ _ _ => rfl⟩
      · obtain ⟨a, b, ha, hb, ej⟩ := cell j j0 j1
        rw [ej, mo_fr, lo_fr, fw_fr, el, ef, hl a b ha hb, (hz a b ha hb).2]
        have q1 := mb a b ha hb
        have q2 := ab a b
        omega
      · have q := sb j.toNat
        rw [← ho j.toNat (by omega), ← eo] at q
        have q : -693 ≤ fr (gA wk 163) j ∧ fr (gA wk 163) j ≤ 693 := q
        omega
      · have q := sur_hi (A := A) (B := B) (n := n) (s := s) (p := j.toNat) hAB2 (show P ≤ j.toNat by omega) W (Nat.le_refl W)
        rw [← ho j.toNat (by omega), ← eo] at q
        exact q
      · obtain ⟨an, ea⟩ : ∃ an : Nat, a = an := ⟨a.toNat, by omega⟩
        obtain ⟨bn, eb⟩ : ∃ bn : Nat, b = bn := ⟨b.toNat, by omega⟩
        have sp := prc_spec (wv (gA wk) a b) (fr (gA wk 162) (10 * b + a)) (wv (gA wk) b a)
        have hpv : pv (gA wk) a b = prc (wv (gA wk) a b) (fr (gA wk 162) (10 * b + a)) (wv (gA wk) b a) := rfl
        have fz : fr (gA wk 162) (10 * b + a) = 0 := by
          rw [ea, eb, fw_fr, ef]
          exact (hz bn an (by omega) (by omega)).2
        rw [hpv]
        show 0 ≤ prc (wv (gA wk) a b) (fr (gA wk 162) (10 * b + a)) (wv (gA wk) b a) + 0 - 0
        omega
    have D0 : ∀ q, q < 10 → ovR wk q + nnF wk q = surS A B n s W q := fun q hq => by
      have z : nnF wk q = 0 := by
        unfold nnF
        rw [ef]
        exact suI_z 10 (fun b hb => by
          show fwR w q b - fwR w b q = 0
          rw [(hz q b hq hb).2, (hz b q hb hq).2]
          rfl)
      rw [z, eo, ho q hq]
      omega
    -- how many units
    have fin : ∀ (k t : Nat) (wj : pm_W) (i6 i7 : Int32), FM [] [162, 163, 164, 165] wk wj → GJ (gA wj) P → i6.toInt = (ps (gA wk 163) : Int) → i7.toInt = t → ps (gA wj 163) + t = ps (gA wk 163) → (∀ q, q < 10 → ovR wj q + nnF wj q = surS A B n s W q) → (∀ i j, i < 10 → j < 10 → P ≤ i ∨ P ≤ j → fwR wj i j = 0) → PS X k 293 159 [.ref 147, .int i1, .int i2, .int i3, .int i4, .int i5, .int i6, .int i7] [] wj r w' → ∃ z : Int32, r = some (.int z) ∧ LKS (rmA w0 u) P W A B n s z.toInt := by
      intro k
      induction k with
      | zero => intro t wj i6 i7 _ _ _ _ _ _ _ h; exact (PS_0 h).elim
      | succ k ih =>
        intro t wj i6 i7 fj gj h6 h7 hps hd hzj h
        have Sj : SK wj := fj.2.2.2
        have h := U293_159 Sj h
        by_cases c : i6 ≤ i7
        · rw [if_pos c] at h
          rw [Int32.le_iff_toInt_le, h6, h7] at c
          have gj' : GI (gA wj) P (20000 - (ps (gA wj 163) : Int)) := gj
          have Bj : bnD wj := bnD_BN gj'.1 (by omega)
          obtain ⟨zg, hg, h⟩ := use_z Sj h (fun _ _ y => F297 Sj Bj (hPk (FM_trans (FM_mono fm (fun _ h => h) (by decide)) (FM_mono fj (fun _ h => h) (by decide)) : FM [] [161, 162, 163, 164, 165] w wj) (by decide)) hP9 y)
          refine ⟨zg, h.1, ?_⟩
          have jl : ∀ i j, i < 10 → j < 10 → loR wj i j = askS A B n s W i j := fun i j hi hj => by rw [lo_fm fj (by decide), el]; exact hl i j hi hj
          have jm : ∀ i j, i < P → j < P → moR wj i j = rmA w0 u i j := fun i j hi hj => by rw [mo_fm fj (by decide), hm i j (by omega) (by omega), if_pos ⟨hi, hj⟩]
          have oz : ∀ q, q < 10 → ovR wj q = 0 := fun q hq => ov_z (show ps (gA wj 163) = 0 by omega) gj'.2.1.2.2 q (by rw [l163 Sj]; exact hq)
          obtain ⟨π, hRC, _, _⟩ := gj'.2.2
          have fnn : ∀ i j, i < 10 → j < 10 → 0 ≤ fwR wj i j := fun i j hi hj => (Bj i j hi hj).2.2.1
          have egr : grF (moR wj) (loR wj) (fwR wj) P = grF (rmA w0 u) (askS A B n s W) (fwR wj) P := by
            unfold grF
            refine suI_cg P (fun a ha => suI_cg P (fun b hb => ?_))
            show (if a = b then 0 else psI (loR wj a b + fwR wj a b - moR wj a b)) = if a = b then 0 else psI (askS A B n s W a b + fwR wj a b - rmA w0 u a b)
            rw [jl a b (by omega) (by omega), jm a b ha hb]
          rw [hg, egr]
          -- nothing goes to those who are not
          have net10 : ∀ a, a < P → suI (fun b => fwR wj a b - fwR wj b a) P = surS A B n s W a := fun a ha => by
            have q := hd a (by omega)
            rw [oz a (by omega)] at q
            have hz10 : ∀ b, P ≤ b → b < 10 → fwR wj a b = 0 ∧ fwR wj b a = 0 := fun b h1 h2 => ⟨hzj a b (by omega) h2 (Or.inr h1), hzj b a h2 (by omega) (Or.inl h1)⟩
            have e : nnF wj a = suI (fun b => fwR wj a b - fwR wj b a) P := suI_ext (by omega) (fun b h1 h2 => by
              show fwR wj a b - fwR wj b a = 0
              have := hz10 b h1 h2
              omega)
            omega
          exact LKS_fl (π := fun a => π a) P1 hP9 (fun a b ha hb => fnn a b (by omega) (by omega)) (fun p hp => sur_hi hAB2 hp W (Nat.le_refl W)) net10 (fun a ha => by
            have q1 := (hR a a ha ha).1
            have q2 : askS A B n s W a a = 0 := by
              unfold askS
              exact suI_z W (fun κ hκ => if_neg (fun z => hAB κ hκ (z.2.1.trans z.2.2.symm)))
            omega) (fun a b ha hb hab => by
            have q := hRC a b (by omega) (by omega) (by omega) (by omega) (by omega)
            have sp := prc_spec (wv (gA wj) a b) (fr (gA wj 162) (10 * (b : Int) + (a : Int))) (wv (gA wj) b a)
            have hpv : pv (gA wj) a b = prc (wv (gA wj) a b) (fr (gA wj 162) (10 * (b : Int) + (a : Int))) (wv (gA wj) b a) := rfl
            rw [hpv] at q
            have ew : wv (gA wj) a b = rmA w0 u a b - askS A B n s W a b - fwR wj a b := by rw [wv_n, jl a b (by omega) (by omega), jm a b ha hb]
            rw [← ew]
            split <;> omega) (fun a b ha hb hab hf => by
            have q := hRC b a (by omega) (by omega) (by omega) (by omega) (by omega)
            have sp := prc_spec (wv (gA wj) b a) (fr (gA wj 162) (10 * (a : Int) + (b : Int))) (wv (gA wj) a b)
            have hpv : pv (gA wj) b a = prc (wv (gA wj) b a) (fr (gA wj 162) (10 * (a : Int) + (b : Int))) (wv (gA wj) a b) := rfl
            rw [hpv] at q
            have ew : wv (gA wj) a b = rmA w0 u a b - askS A B n s W a b - fwR wj a b := by rw [wv_n, jl a b (by omega) (by omega), jm a b ha hb]
            have ef : fr (gA wj 162) (10 * (a : Int) + (b : Int)) = fwR wj a b := fw_fr
            rw [← ew]
            split <;> omega)
        · rw [if_neg c] at h
          rw [Int32.le_iff_toInt_le, h6, h7] at c
          obtain ⟨r4, w5, y, h⟩ := h
          obtain ⟨a1, a2, a3, a4, a5, a6⟩ := F294 (P := P) Sj hp (by
            have f : FM [] [161, 162, 163, 164, 165] w wj := FM_trans (FM_mono fm (fun _ h => h) (by decide)) (FM_mono fj (fun _ h => h) (by decide))
            rw [al_FM f (by decide), e0]
            exact hP) hP9 gj (by omega) y
          have h := h a1 a2.2.2.2
          exact ih (t + 1) w5 i6 _ (FM_trans fj a2) a3 h6 (by rw [zi_inc (n := 100000) (by omega) (by omega), h7]; rfl) (by omega) (fun q hq => by rw [a5 q hq]; exact hd q hq) (fun i j hi hj hij => (a6 i j hi hj hij).trans (hzj i j hi hj hij)) h
    have cnt : ∀ (k t : Nat) (i6 i7 : Int32), i7.toInt = t → t ≤ P → i6.toInt = suI (fun j => psI (ovR wk j)) t → PS X k 293 112 [.ref 147, .int i1, .int i2, .int i3, .int i4, .int i5, .int i6, .int i7] [] wk r w' → ∃ z : Int32, r = some (.int z) ∧ LKS (rmA w0 u) P W A B n s z.toInt := by
      intro k
      induction k with
      | zero => intro t i6 i7 _ _ _ h; exact (PS_0 h).elim
      | succ k ih =>
        intro t i6 i7 h7 ht h6 h
        obtain ⟨_, h⟩ := U293_112 S1 h
        by_cases c : aG wk 148 i5 ≤ i7
        · rw [if_pos c] at h
          rw [Int32.le_iff_toInt_le, hPk fm (by decide), h7] at c
          refine fin k 0 wk i6 0 (FM_refl S1) G0 ?_ z32 (Nat.add_zero _) D0 (fun i j hi hj _ => by rw [ef]; exact (hz i j hi hj).2) h
          rw [h6, psu, show t = P by omega]
          exact (suI_ext (by omega) (fun j h1 h2 => by
            show psI (ovR wk j) = 0
            rw [eo, ho j h2, sur_hi hAB2 h1 W (Nat.le_refl W)]
            rfl)).symm
        · rw [if_neg c] at h
          rw [Int32.le_iff_toInt_le, hPk fm (by decide), h7] at c
          obtain ⟨_, h⟩ := h
          have v : (aG wk 163 i7).toInt = ovR wk t := by rw [aG_n h7]; rfl
          have e1 : (i7 + 1).toInt = ((t + 1 : Nat) : Int) := by rw [zi_inc (n := 100) (by omega) (by omega), h7]; rfl
          have ub := suI_le (f := fun j => psI (ovR wk j)) (g := fun _ => 693) t (fun j hj => by
            show psI (ovR wk j) ≤ 693
            rw [eo, ho j (by omega)]
            have := sb j
            unfold psI
            omega)
          have uc : ∀ t : Nat, suI (fun _ => (693 : Int)) t = 693 * t := by
            intro t
            induction t with
            | zero => rfl
            | succ t ih => show suI (fun _ => (693 : Int)) t + 693 = 693 * ((t + 1 : Nat) : Int); rw [ih]; omega
          rw [uc] at ub
          have lb : 0 ≤ suI (fun j => psI (ovR wk j)) t := suI_nn (fun j _ => by unfold psI; omega)
          have ot : -693 ≤ ovR wk t ∧ ovR wk t ≤ 693 := by rw [eo, ho t (by omega)]; exact sb t
          have s1 : suI (fun j => psI (ovR wk j)) (t + 1) = suI (fun j => psI (ovR wk j)) t + psI (ovR wk t) := rfl
          by_cases c1 : aG wk 163 i7 ≤ 0
          · rw [if_pos c1] at h
            rw [Int32.le_iff_toInt_le, z32, v] at c1
            refine ih (t + 1) _ _ e1 (by omega) ?_ h
            rw [zi_add h6 z32 (by omega) (by omega), s1]
            unfold psI
            omega
          · rw [if_neg c1] at h
            rw [Int32.le_iff_toInt_le, z32, v] at c1
            refine ih (t + 1) _ _ e1 (by omega) ?_ h.2
            rw [zi_add h6 v (by omega) (by omega), s1]
            unfold psI
            omega
    exact cnt k 0 0 0 z32 (Nat.zero_le _) z32 h
  have lay : ∀ k : Nat, (∀ (t : Nat) (wk : pm_W) (j6 : Int32) (v7 : Value), FM [] [161] w wk → j6.toInt = t → t ≤ P → (∀ i j, i < 10 → j < 10 → moR wk i j = if i < t ∧ j < P then rmA w0 u i j else 0) → PS X k 293 44 [.ref 147, .int i1, .int i2, .int i3, .int i4, .int i5, .int j6, v7] [] wk r w' → ∃ z : Int32, r = some (.int z) ∧ LKS (rmA w0 u) P W A B n s z.toInt) ∧
      (∀ (t q : Nat) (wk : pm_W) (j6 j7 : Int32), FM [] [161] w wk → j6.toInt = t → t < P → j7.toInt = q → q ≤ P → (∀ i j, i < 10 → j < 10 → moR wk i j = if (i < t ∧ j < P) ∨ (i = t ∧ j < q) then rmA w0 u i j else 0) → PS X k 293 59 [.ref 147, .int i1, .int i2, .int i3, .int i4, .int i5, .int j6, .int j7] [] wk r w' → ∃ z : Int32, r = some (.int z) ∧ LKS (rmA w0 u) P W A B n s z.toInt) := by
    intro k
    induction k with
    | zero => exact ⟨fun _ _ _ _ _ _ _ _ h => (PS_0 h).elim, fun _ _ _ _ _ _ _ _ _ _ _ h => (PS_0 h).elim⟩
    | succ k ih =>
      obtain ⟨ih44, ih59⟩ := ih
      refine ⟨fun t wk j6 v7 fm h6 ht hm h => ?_, fun t q wk j6 j7 fm h6 ht h7 hq hm h => ?_⟩
      · have S1 : SK wk := fm.2.2.2
        obtain ⟨_, h⟩ := U293_44 S1 h
        by_cases c : aG wk 148 i5 ≤ j6
        · rw [if_pos c] at h
          rw [Int32.le_iff_toInt_le, hPk fm (by decide), h6] at c
          have e : t = P := by omega
          rw [e] at hm
          exact tail k wk fm hm h
        · rw [if_neg c] at h
          rw [Int32.le_iff_toInt_le, hPk fm (by decide), h6] at c
          refine ih59 t 0 wk j6 0 fm h6 (by omega) z32 (Nat.zero_le _) (fun i j hi hj => ?_) h
          rw [hm i j hi hj]
          by_cases c : i < t ∧ j < P
          · rw [if_pos c, if_pos (Or.inl c)]
          · rw [if_neg c, if_neg (by omega)]
      · have S1 : SK wk := fm.2.2.2
        obtain ⟨_, h⟩ := U293_59 S1 h
        by_cases c : aG wk 148 i5 ≤ j7
        · rw [if_pos c] at h
          rw [Int32.le_iff_toInt_le, hPk fm (by decide), h7] at c
          refine ih44 (t + 1) wk _ _ fm (by rw [zi_inc (n := 40) (by omega) (by omega), h6]; rfl) (by omega) (fun i j hi hj => ?_) h
          rw [hm i j hi hj]
          by_cases c : i < t + 1 ∧ j < P
          · rw [if_pos c, if_pos (by omega)]
          · rw [if_neg c, if_neg (by omega)]
        · rw [if_neg c] at h
          rw [Int32.le_iff_toInt_le, hPk fm (by decide), h7] at c
          have h := use_p S1 h (fun _ _ y => F231n S1 hp hu h6 h7 (by omega) (by omega) y)
          obtain ⟨_, h⟩ := h
          have h := h _ rfl
          have ek : al wk = al w0 := by rw [al_FM fm (by decide), e0]
          have ed : dR wk = dR w0 := by
            funext p
            unfold dR
            rw [FM_a fm (by decide), FM_a f0 (by decide)]
          have ev : (rmI (fun k => al wk (610 + 132 * u + k)) (dR wk) t q).toInt = rmA w0 u t q := by
            rw [ek, ed]
            rfl
          refine ih59 t (q + 1) _ j6 _ (FM_trans fm (FM_aS S1 (by decide))) h6 ht (by rw [zi_inc (n := 40) (by omega) (by omega), h7]; rfl) (by omega) (fun i j hi hj => ?_) h
          rw [moR_s S1 (by omega) (by omega) (ix10 h6 h7 (by omega) (by omega)) i j hi hj, ev]
          by_cases e : i = t ∧ j = q
          · rw [if_pos e, if_pos (by omega), e.1, e.2]
          · rw [if_neg e, hm i j hi hj]
            by_cases c : (i < t ∧ j < P) ∨ (i = t ∧ j < q)
            · rw [if_pos c, if_pos (by omega)]
            · rw [if_neg c, if_neg (by omega)]
  exact (lay k).1 0 w 0 u7 (FM_refl hS) z32 (Nat.zero_le _) (fun i j hi hj => by
    rw [if_neg (by omega)]
    exact (hz i j hi hj).1) h
/-- need -/
theorem RC_24 (h3 : RL3 w) (h1 : PS X k 181 0 [.ref 0, .int p1, .int p2, .int p3, .int p4] [] w r w1) (h2 : PS X k2 293 0 [.ref 147, .int p1, .int p2, .int p3, .int p4, pm_dead, pm_dead, pm_dead] [] w1 r2 w2) : r2 = r := by
  have hS := h3.1.1
  cases k with
  | zero => exact (PS_0 h1).elim
  | succ k =>
    cases k2 with
    | zero => exact (PS_0 h2).elim
    | succ k2 =>
      obtain ⟨q1, w3, z, h1⟩ := U181_0 hS h1
      cases k with
      | zero => exact (PS_0 z).elim
      | succ k =>
        obtain ⟨q2, w4, zz, hz⟩ := U168_0 hS z
        obtain ⟨f1, alt⟩ := F98 h3 zz
        have S4 : SK w4 := f1.2.2.2
        have ea := FM_al f1
        have hm4 : gI w4 147 31 = gI w 147 31 := FM_i f1 (by simp)
        -- where the class says no without asking
        have no : q1 = some (.int 0) → w3 = w4 → (q2 = some (.int 0) ∨ ∃ u : Nat, p1.toInt = u ∧ ¬ (0 ≤ p4.toInt ∧ p4.toInt < ((2 ^ Wof (al w) u : Nat) : Int))) → r2 = r := by
          intro e1 e2 hq
          rw [e2] at h1
          have h1 := h1 _ e1 S4
          rw [if_pos rfl] at h1
          rw [h1.2] at h2
          obtain ⟨q6, w6, y6, h2⟩ := U293_0 S4 h2
          obtain ⟨f6, e6, alt2⟩ := LOAD3 h3 zz S4 ea y6
          have S6 : SK w6 := f6.2.2.2
          rw [h1.1]
          rcases alt2 with ⟨_, g1⟩ | ⟨u', t1, t2, g1, g2, c1, c2, c3, _⟩
          · have h2 := h2 _ g1 S6
            rw [if_pos rfl] at h2
            exact h2.1
          · have h2 := h2 _ g2 S6
            rw [if_neg (by decide +kernel)] at h2
            have h2 := use_p S6 h2 (fun _ _ y => F217v S6 c1 c3 y)
            obtain ⟨q8, w8, y8, h8⟩ := h2
            obtain ⟨x1, x2, _⟩ := VA_w h3.2 c2
            have z8 : q8 = some (.int 0) ∧ w8 = w6 := by
              cases k2 with
              | zero => exact (PS_0 y8).elim
              | succ k2 =>
                have y8 := U283_0 S6 y8
                by_cases d1 : p4 < 0
                · rw [if_pos d1] at y8; exact y8
                · rw [if_neg d1] at y8
                  rw [Int32.lt_iff_toInt_lt, z32] at d1
                  obtain ⟨_, y8⟩ := y8
                  have eW : (aG w6 148 (610 + 132 * p1 + 1)).toInt = Wof (al w) u' := by
                    rw [aG_n (m := 611 + 132 * u') (by rw [zi_add (plV c1 c3) o32 (by omega) (by omega)]; omega)]
                    show (al w6 _).toInt = _
                    rw [e6]; exact x1
                  obtain ⟨mm, hmm⟩ : ∃ mm : Nat, p4.toInt = mm := ⟨p4.toInt.toNat, by omega⟩
                  have q := shr_0 hmm eW x2
                  by_cases d2 : (p4 >>> (aG w6 148 (610 + 132 * p1 + 1) &&& 31)) = 0
                  · exfalso
                    have q := q.mp d2
                    rcases hq with hq | ⟨u2, hu2, hq⟩
                    · rw [g1] at hq; exact absurd hq i10
                    · have e : u2 = u' := by omega
                      rw [e] at hq
                      exact hq ⟨by omega, by omega⟩
                  · rw [if_neg d2] at y8; exact y8
            have h2 := h8 _ z8.1 (by rw [z8.2]; exact S6)
            rw [if_pos rfl] at h2
            exact h2.1
        rcases alt with ⟨u, s1, a1, a2, a3⟩ | ⟨a1, a2⟩
        · have hz := hz _ a1 S4
          rw [if_neg (by decide +kernel)] at hz
          have hu := a2.2.1
          obtain ⟨x1, x2, x3⟩ := VA_w h3.2 hu
          obtain ⟨u1, _, gw, _⟩ := VT hS h3.1.2.1 hu
          obtain ⟨g1, g2, g3, g4⟩ := CVL h3 hu f1 a3
          have gW : (gI w4 (gR w4 33 0) 2).toInt = Wof (al w) u := by
            rw [g3, FM_i f1 (by simp <;> omega), gw]
            exact x1
          have ep := sh_pow gW x2
          have p128 : 2 ^ Wof (al w) u ≤ 128 := Nat.le_trans (Nat.pow_le_pow_right (by decide) x2) (by decide)
          by_cases c1 : p4 < 0
          · rw [if_pos c1] at hz
            rw [Int32.lt_iff_toInt_lt, z32] at c1
            exact no hz.1 hz.2 (Or.inr ⟨u, a2.1, by omega⟩)
          · rw [if_neg c1] at hz
            rw [Int32.lt_iff_toInt_lt, z32] at c1
            by_cases c2 : p4 < (1 <<< (gI w4 (gR w4 33 0) 2 &&& 31))
            · rw [if_pos c2] at hz
              rw [Int32.lt_iff_toInt_lt, ep] at c2
              obtain ⟨q4, w5, y5, h5⟩ := hz
              obtain ⟨b1, u', s1', b2, b3, b4, b5, b6, b7, b8, b9, b10, b11⟩ := LK5_c h3 zz a1 y5
              have eu : u' = u := by have := a2.1; omega
              subst eu
              have S5 : SK w5 := b7.2.2.2
              obtain ⟨d1, d2⟩ := h5 b1 S5
              rw [d2] at h1
              have h1 := h1 _ d1 S5
              rw [if_neg (by decide +kernel)] at h1
              obtain ⟨s, hs⟩ : ∃ s : Nat, p4.toInt = s := ⟨p4.toInt.toNat, by omega⟩
              have e5 : al w5 = al w := by rw [al_FM b7 (by decide), ea]
              have hm5 : gI w5 147 31 = gI w 147 31 := by rw [FM_i b7 (by simp), hm4]
              have bd : ∀ q, 0 ≤ (s1.1 q).toInt ∧ (s1.1 q).toInt ≤ 99 := (LDR_2 h3.2 a2 a2).2.2.2.2.2.1.1.1
              obtain ⟨_, c2', c3', c4', _, _, c7', c8'⟩ := LOOK3 h3 f1 hu a3 bd y5
              obtain ⟨q7, w7, y7, h1⟩ := h1
              obtain ⟨f7, z1, m1, m2⟩ := F182 (s := s) S5 (LOOK_V h3 f1 hu c2' c3' c4') (fun i j hi hj => by rw [c7' i j hi hj]; have := c8' i j hi hj; omega) (MSK_set hs (by omega)) y7
              have h1 := h1 _ m1 f7.2.2.2
              rw [h1.2] at h2
              have S9 : SK w7 := f7.2.2.2
              have e9 : al w7 = al w := by rw [al_FM f7 (by decide), e5]
              obtain ⟨q6, w6, y6, h2⟩ := U293_0 S9 h2
              obtain ⟨f6, e6, alt2⟩ := LOAD3 h3 zz S9 e9 y6
              have S6 : SK w6 := f6.2.2.2
              have hm6 : gI w6 147 31 = gI w 147 31 := by rw [FM_i f6 (by simp), FM_i f7 (by simp), hm5]
              rcases alt2 with ⟨gg1, _⟩ | ⟨u2, t1, t2, _, gg2, hL⟩
              · rw [a1] at gg1; exact absurd gg1 i10
              · have eu : u2 = u' := by have := hL.1; omega
                subst eu
                have hK := b11 w6 t1 t2 hL e6 hm6
                have hc1 := hL.1
                have hc3 := hL.2.2.1
                have h2 := h2 _ gg2 S6
                rw [if_neg (by decide +kernel)] at h2
                have h2 := use_p S6 h2 (fun _ _ y => F217v S6 hc1 hc3 y)
                obtain ⟨q8, w8, y8, h8⟩ := h2
                have z8 : q8 = some (.int 1) ∧ w8 = w6 := by
                  cases k2 with
                  | zero => exact (PS_0 y8).elim
                  | succ k2 =>
                    have y8 := U283_0 S6 y8
                    rw [if_neg (by rw [Int32.lt_iff_toInt_lt, z32]; omega)] at y8
                    obtain ⟨_, y8⟩ := y8
                    have eW : (aG w6 148 (610 + 132 * p1 + 1)).toInt = Wof (al w) u2 := by
                      rw [aG_n (m := 611 + 132 * u2) (by rw [zi_add (plV hc1 hc3) o32 (by omega) (by omega)]; omega)]
                      show (al w6 _).toInt = _
                      rw [e6]; exact x1
                    rw [if_pos ((shr_0 hs eW x2).mpr (by omega))] at y8
                    exact y8
                have h2 := h8 _ z8.1 (by rw [z8.2]; exact S6)
                rw [if_neg (by decide +kernel), z8.2] at h2
                have h2 := use_p S6 h2 (fun _ _ y => F217v S6 hc1 hc3 y)
                obtain ⟨hu1, hP, hP9, hW, hW7, hw, hR⟩ := id hK.2.1
                obtain ⟨q9, w9, y9, h9⟩ := h2
                obtain ⟨l1, l2, l3, l4, l5⟩ := F285 (s := s) S6 hu1 (plV hc1 hc3) hW hW7 hP9 hw (MSK_set hs (by omega)) y9
                have h9 := h9 l1 l2.2.2.2
                obtain ⟨_, v1', _⟩ := VA_v h3.2 b3
                obtain ⟨z2, n1, n2⟩ := F293_44 (s := s) l2.2.2.2 hK.2.1 (by omega) (fun κ hκ e => by
                  have q := (x3 κ hκ).2.2.2.2.1
                  have q2 := hw κ hκ
                  rw [e6] at q2
                  rw [q2.1, q2.2.1, e] at q
                  exact q rfl) l2 (plV hc1 hc3) l3 l4 l5 h9
                have e12 := LKS_uq (LKS_cg (fun i j hi hj => hK.2.2.2.1 i j hi hj) m2) n2
                rw [n1, h1.1, Int32.toInt_inj.mp e12]
            · rw [if_neg c2] at hz
              rw [Int32.lt_iff_toInt_lt, ep] at c2
              exact no hz.1 hz.2 (Or.inr ⟨u, a2.1, by omega⟩)
        · have hz := hz _ a1 S4
          rw [if_pos rfl] at hz
          exact no hz.1 hz.2 (Or.inl a1)
end KHA
