/-! ===== the least trust for all: prices, ways, potentials ===== -/
def prc (w f w2 : Int) : Int := if (if f = 0 then 2 else if w2 < 0 then -1 else 0) < (if 0 < w then 0 else 1) then (if f = 0 then 2 else if w2 < 0 then -1 else 0) else (if 0 < w then (0 : Int) else 1)
theorem prc_b {w f w2 : Int} : -1 ≤ prc w f w2 ∧ prc w f w2 ≤ 1 := by
  unfold prc
  repeat' split
  all_goals omega
def wv (A : Nat → List Int32) (a b : Int) : Int := fr (A 161) (10 * a + b) - fr (A 160) (10 * a + b) - fr (A 162) (10 * a + b)
def pv (A : Nat → List Int32) (a b : Int) : Int := prc (wv A a b) (fr (A 162) (10 * b + a)) (wv A b a)
theorem pv_b {A : Nat → List Int32} {a b : Int} : -1 ≤ pv A a b ∧ pv A a b ≤ 1 := prc_b
theorem pv_eq {A B : Nat → List Int32} (h0 : A 160 = B 160) (h1 : A 161 = B 161) (h2 : A 162 = B 162) (a b : Int) : pv A a b = pv B a b := by
  unfold pv wv
  rw [h0, h1, h2]
def RC (A : Nat → List Int32) (π : Int → Int) (p : Int) : Prop := ∀ a b : Int, 0 ≤ a → a < p → 0 ≤ b → b < p → a ≠ b → 0 ≤ pv A a b + π a - π b
def BN (A : Nat → List Int32) (B : Int) : Prop := ∀ j : Int, 0 ≤ j → j < 100 → (0 ≤ fr (A 161) j ∧ fr (A 161) j ≤ 99) ∧ (0 ≤ fr (A 160) j ∧ fr (A 160) j ≤ 700) ∧ (0 ≤ fr (A 162) j ∧ fr (A 162) j ≤ B)
def GI (A : Nat → List Int32) (p K : Int) : Prop := BN A K ∧ OB (A 163) 1386 p ∧ ∃ π : Int → Int, RC A π p ∧ (∀ b : Int, 0 ≤ b → b < p → -1000 ≤ π b) ∧ (∀ b : Int, 0 ≤ b → b < p → 0 < fr (A 163) b → π b = 0)
/-- what holds of one of the village within Bellman and Ford's turns -/
def NF (A : Nat → List Int32) (π t la : Int → Int) (p k U b : Int) : Prop := (-1000 ≤ π b ∧ 0 ≤ la b ∧ la b ≤ k ∧ 0 ≤ t b ∧ t b ≤ U) ∧ (0 < fr (A 163) b → π b = 0 ∧ fr (A 165) b = 0 ∧ fr (A 164) b = b ∧ la b = 0) ∧ (fr (A 163) b ≤ 0 → (fr (A 165) b = 1000000 ∧ fr (A 164) b = -1 ∧ la b = 0) ∨ (π b ≤ fr (A 165) b ∧ fr (A 165) b ≤ U ∧ 0 ≤ fr (A 164) b ∧ fr (A 164) b < p ∧ fr (A 164) b ≠ b ∧ fr (A 165) (fr (A 164) b) ≠ 1000000 ∧ fr (A 165) (fr (A 164) b) + pv A (fr (A 164) b) b ≤ fr (A 165) b ∧ (fr (A 165) (fr (A 164) b) - π (fr (A 164) b) < fr (A 165) b - π b ∨ t (fr (A 164) b) < t b) ∧ la b ≤ la (fr (A 164) b) + 1))
def BE (A : Nat → List Int32) (π t la : Int → Int) (p k i j : Int) : Prop := RC A π p ∧ (∀ b : Int, 0 ≤ b → b < p → NF A π t la p k (81 * (k - 1) + 9 * i + j) b) ∧ (∀ a b : Int, 0 ≤ a → a < p → 0 ≤ b → b < p → a ≠ b → fr (A 165) a ≠ 1000000 → la a ≤ k - 2 → fr (A 165) b ≤ fr (A 165) a + pv A a b) ∧ (∀ a b : Int, 0 ≤ a → a < p → 0 ≤ b → b < p → a ≠ b → (a < i ∨ (a = i ∧ b < j)) → fr (A 165) a ≠ 1000000 → la a ≤ k - 1 → fr (A 165) b ≤ fr (A 165) a + pv A a b)
def BF (A : Nat → List Int32) (p k i j : Int) : Prop := ∃ π t la : Int → Int, BE A π t la p k i j
theorem NF_up {A : Nat → List Int32} {π t la : Int → Int} {p k k' U U' b : Int} (h : NF A π t la p k U b) (hk : k ≤ k') (hU : U ≤ U') : NF A π t la p k' U' b := by
  obtain ⟨h1, h2, h3⟩ := h
  refine ⟨by omega, h2, fun hb => ?_⟩
  rcases h3 hb with h | ⟨g1, g2, g⟩
  · exact Or.inl h
  · exact Or.inr ⟨g1, by omega, g⟩
theorem BF_skip {A : Nat → List Int32} {p k i j : Int} (h : BF A p k i j) (hs : i ≠ j → fr (A 165) i ≠ 1000000 → fr (A 165) j ≤ fr (A 165) i + pv A i j) : BF A p k i (j + 1) := by
  obtain ⟨π, t, la, h1, h2, h3, h4⟩ := h
  refine ⟨π, t, la, h1, fun b b0 b1 => NF_up (h2 b b0 b1) (Int.le_refl k) (by omega), h3, fun a b a0 a1 b0 b1 ne hl hm hla => ?_⟩
  by_cases e : a = i ∧ b = j
  · rw [e.1, e.2]
    rw [e.1] at hm
    exact hs (by omega) hm
  · exact h4 a b a0 a1 b0 b1 ne (by omega) hm hla
theorem BF_row {A : Nat → List Int32} {p k i j : Int} (h : BF A p k i j) (hj : p ≤ j) (hj9 : j ≤ 9) : BF A p k (i + 1) 0 := by
  obtain ⟨π, t, la, h1, h2, h3, h4⟩ := h
  exact ⟨π, t, la, h1, fun b b0 b1 => NF_up (h2 b b0 b1) (Int.le_refl k) (by omega), h3, fun a b a0 a1 b0 b1 ne hl hm hla => h4 a b a0 a1 b0 b1 ne (by omega) hm hla⟩
theorem BF_turn {A : Nat → List Int32} {p k i : Int} (h : BF A p k i 0) (hi : p ≤ i) (hi9 : i ≤ 9) : BF A p (k + 1) 0 0 := by
  obtain ⟨π, t, la, h1, h2, h3, h4⟩ := h
  exact ⟨π, t, la, h1, fun b b0 b1 => NF_up (h2 b b0 b1) (by omega) (by omega), fun a b a0 a1 b0 b1 ne hm hla => h4 a b a0 a1 b0 b1 ne (by omega) hm (by omega), fun a b a0 a1 b0 b1 ne hl hm hla => absurd hl (by omega)⟩
/-- a price that is not without end is not below the old potential -/
theorem NF_pi {A : Nat → List Int32} {π t la : Int → Int} {p k U b : Int} (h : NF A π t la p k U b) (hU : 0 ≤ U) (hm : fr (A 165) b ≠ 1000000) : π b ≤ fr (A 165) b ∧ fr (A 165) b ≤ U := by
  obtain ⟨h1, h2, h3⟩ := h
  by_cases hb : 0 < fr (A 163) b
  · have g := h2 hb
    omega
  · rcases h3 (by omega) with g | g
    · exact absurd g.1 hm
    · exact ⟨g.1, g.2.1⟩
theorem BF_relax {A A1 A2 : Nat → List Int32} {p k i j : Int} {x y : Int32} (h : BF A p k i j) (k1 : 1 ≤ k) (k2 : k ≤ 10) (p9 : p ≤ 9) (i0 : 0 ≤ i) (i1 : i < p) (j0 : 0 ≤ j) (j1 : j < p) (hne : i ≠ j) (l4 : (A 164).length = 10) (l5 : (A 165).length = 10) (hm : fr (A 165) i ≠ 1000000) (hr : fr (A 165) i + pv A i j < fr (A 165) j) (hx : x.toInt = fr (A 165) i + pv A i j) (hy : y.toInt = i) (e1 : A1 = upa A 165 ((A 165).set j.toNat x)) (e2 : A2 = upa A1 164 ((A1 164).set j.toNat y)) : BF A2 p k i (j + 1) := by
  obtain ⟨π, t, la, h1, h2, h3, h4⟩ := h
  have q5 : A2 165 = (A 165).set j.toNat x := by rw [upa_fr e2 (by decide : (165 : Nat) ≠ 164), upa_at e1]
  have q4 : A2 164 = (A 164).set j.toNat y := by rw [upa_at e2, upa_fr e1 (by decide : (164 : Nat) ≠ 165)]
  have qo : ∀ n : Nat, n ≠ 164 → n ≠ 165 → A2 n = A n := fun n n4 n5 => by rw [upa_fr e2 n4, upa_fr e1 n5]
  have qp : ∀ a b : Int, pv A2 a b = pv A a b := pv_eq (qo 160 (by decide) (by decide)) (qo 161 (by decide) (by decide)) (qo 162 (by decide) (by decide))
  have q3 : A2 163 = A 163 := qo 163 (by decide) (by decide)
  have P5 : ∀ b : Int, 0 ≤ b → b ≠ j → fr (A2 165) b = fr (A 165) b := fun b b0 hb => by rw [q5, fr_ne j0 b0 (Ne.symm hb)]
  have P4 : ∀ b : Int, 0 ≤ b → b ≠ j → fr (A2 164) b = fr (A 164) b := fun b b0 hb => by rw [q4, fr_ne j0 b0 (Ne.symm hb)]
  have J5 : fr (A2 165) j = fr (A 165) i + pv A i j := by rw [q5, fr_eq j0 (by omega), hx]
  have J4 : fr (A2 164) j = i := by rw [q4, fr_eq j0 (by omega), hy]
  have pb := @pv_b A i j
  have ni := h2 i i0 i1
  have nj := h2 j j0 j1
  have pi_ := NF_pi ni (by omega) hm
  have rij := h1 i j i0 i1 j0 j1 hne
  have hj3 : fr (A 163) j ≤ 0 := by
    refine Classical.byContradiction (fun hc => ?_)
    have g := nj.2.1 (by omega)
    omega
  have hla : k - 1 ≤ la i := by
    refine Classical.byContradiction (fun hc => ?_)
    have g := h3 i j i0 i1 j0 j1 hne hm (by omega)
    omega
  refine ⟨π, fun b => if b = j then 81 * (k - 1) + 9 * i + j + 1 else t b, fun b => if b = j then k else la b, ?_, ?_, ?_, ?_⟩
  · intro a b a0 a1 b0 b1 ne
    rw [qp]
    exact h1 a b a0 a1 b0 b1 ne
  · intro b b0 b1
    by_cases eb : b = j
    · subst eb
      refine ⟨?_, fun hc => absurd hc (by rw [q3]; omega), fun _ => Or.inr ?_⟩
      · show -1000 ≤ π b ∧ 0 ≤ (if b = b then k else la b) ∧ (if b = b then k else la b) ≤ k ∧ 0 ≤ (if b = b then 81 * (k - 1) + 9 * i + b + 1 else t b) ∧ (if b = b then 81 * (k - 1) + 9 * i + b + 1 else t b) ≤ 81 * (k - 1) + 9 * i + (b + 1)
        rw [if_pos rfl, if_pos rfl]
        have g := nj.1
        omega
      · rw [J5, J4, P5 i i0 hne, qp]
        show _ ∧ _ ∧ _ ∧ _ ∧ _ ∧ _ ∧ _ ∧ (_ ∨ (if i = b then 81 * (k - 1) + 9 * i + b + 1 else t i) < (if b = b then 81 * (k - 1) + 9 * i + b + 1 else t b)) ∧ (if b = b then k else la b) ≤ (if i = b then k else la i) + 1
        rw [if_neg hne, if_pos rfl, if_pos rfl, if_neg hne]
        have g := ni.1
        omega
    · have nb := h2 b b0 b1
      obtain ⟨g1, g2, g3⟩ := nb
      refine ⟨?_, ?_, ?_⟩
      · show -1000 ≤ π b ∧ 0 ≤ (if b = j then k else la b) ∧ (if b = j then k else la b) ≤ k ∧ 0 ≤ (if b = j then 81 * (k - 1) + 9 * i + j + 1 else t b) ∧ (if b = j then 81 * (k - 1) + 9 * i + j + 1 else t b) ≤ 81 * (k - 1) + 9 * i + (j + 1)
        rw [if_neg eb, if_neg eb]
        omega
      · rw [q3, P5 b b0 eb, P4 b b0 eb]
        show _ → _ ∧ _ ∧ _ ∧ (if b = j then k else la b) = 0
        rw [if_neg eb]
        exact g2
      · rw [q3, P5 b b0 eb, P4 b b0 eb]
        intro hb
        rcases g3 hb with g | ⟨c1, c2, c3, c4, c5, c6, c7, c8, c9⟩
        · left
          show _ ∧ _ ∧ (if b = j then k else la b) = 0
          rw [if_neg eb]
          exact g
        · right
          by_cases eg : fr (A 164) b = j
          · rw [eg] at c5 c6 c7 c8 c9 ⊢
            rw [J5, qp]
            have rjb := h1 j b j0 j1 b0 b1 (Ne.symm eb)
            show _ ∧ _ ∧ _ ∧ _ ∧ _ ∧ _ ∧ _ ∧ (_ ∨ _) ∧ (if b = j then k else la b) ≤ (if j = j then k else la j) + 1
            rw [if_neg eb, if_pos rfl]
            omega
          · rw [P5 (fr (A 164) b) c3 eg, qp]
            show _ ∧ _ ∧ _ ∧ _ ∧ _ ∧ _ ∧ _ ∧ (_ ∨ (if fr (A 164) b = j then 81 * (k - 1) + 9 * i + j + 1 else t (fr (A 164) b)) < (if b = j then 81 * (k - 1) + 9 * i + j + 1 else t b)) ∧ (if b = j then k else la b) ≤ (if fr (A 164) b = j then k else la (fr (A 164) b)) + 1
            rw [if_neg eg, if_neg eb, if_neg eb, if_neg eg]
            exact ⟨c1, by omega, c3, c4, c5, c6, c7, c8, c9⟩
  · intro a b a0 a1 b0 b1 ne hma hl
    by_cases ea : a = j
    · subst ea
      have hl2 : (if a = a then k else la a) ≤ k - 2 := hl
      rw [if_pos rfl] at hl2
      omega
    · have hl2 : (if a = j then k else la a) ≤ k - 2 := hl
      rw [if_neg ea] at hl2
      rw [P5 a a0 ea] at hma ⊢
      rw [qp]
      have g := h3 a b a0 a1 b0 b1 ne hma hl2
      by_cases eb : b = j
      · subst eb
        rw [J5]
        omega
      · rw [P5 b b0 eb]
        exact g
  · intro a b a0 a1 b0 b1 ne hlt hma hl
    by_cases ea : a = j
    · subst ea
      have hl2 : (if a = a then k else la a) ≤ k - 1 := hl
      rw [if_pos rfl] at hl2
      omega
    · have hl2 : (if a = j then k else la a) ≤ k - 1 := hl
      rw [if_neg ea] at hl2
      rw [P5 a a0 ea] at hma ⊢
      rw [qp]
      by_cases eb : b = j
      · subst eb
        rw [J5]
        by_cases ei : a = i
        · rw [ei]
          omega
        · have g := h4 a b a0 a1 b0 b1 ne (by omega) hma hl2
          omega
      · rw [P5 b b0 eb]
        exact h4 a b a0 a1 b0 b1 ne (by omega) hma hl2
/-- at the start -/
def BI (A : Nat → List Int32) (n : Int) : Prop := ∀ b : Int, 0 ≤ b → b < n → (0 < fr (A 163) b ∧ fr (A 164) b = b ∧ fr (A 165) b = 0) ∨ (fr (A 163) b ≤ 0 ∧ fr (A 164) b = -1 ∧ fr (A 165) b = 1000000)
theorem BI_step {A A1 A2 : Nat → List Int32} {n : Int} {x y : Int32} (h : BI A n) (n0 : 0 ≤ n) (n9 : n ≤ 9) (l4 : (A 164).length = 10) (l5 : (A 165).length = 10) (e1 : A1 = upa A 164 ((A 164).set n.toNat x)) (e2 : A2 = upa A1 165 ((A1 165).set n.toNat y)) (hv : (0 < fr (A 163) n ∧ x.toInt = n ∧ y.toInt = 0) ∨ (fr (A 163) n ≤ 0 ∧ x.toInt = -1 ∧ y.toInt = 1000000)) : BI A2 (n + 1) := by
  have q5 : A2 165 = (A 165).set n.toNat y := by rw [upa_at e2, upa_fr e1 (by decide : (165 : Nat) ≠ 164)]
  have q4 : A2 164 = (A 164).set n.toNat x := by rw [upa_fr e2 (by decide : (164 : Nat) ≠ 165), upa_at e1]
  have q3 : A2 163 = A 163 := by rw [upa_fr e2 (by decide : (163 : Nat) ≠ 165), upa_fr e1 (by decide : (163 : Nat) ≠ 164)]
  intro b b0 b1
  rw [q3, q4, q5]
  by_cases e : n = b
  · rw [← e, fr_eq n0 (by omega), fr_eq n0 (by omega)]
    exact hv
  · rw [fr_ne n0 b0 e, fr_ne n0 b0 e]
    exact h b b0 (by omega)
theorem BF_init {A : Nat → List Int32} {p : Int} (h : BI A 10) (p9 : p ≤ 9) (g : ∃ π : Int → Int, RC A π p ∧ (∀ b : Int, 0 ≤ b → b < p → -1000 ≤ π b) ∧ (∀ b : Int, 0 ≤ b → b < p → 0 < fr (A 163) b → π b = 0)) : BF A p 1 0 0 := by
  obtain ⟨π, g1, g2, g3⟩ := g
  refine ⟨π, fun _ => 0, fun _ => 0, g1, fun b b0 b1 => ?_, fun a b a0 a1 b0 b1 ne hm hl => absurd (show (0 : Int) ≤ 1 - 2 from hl) (by decide), fun a b a0 a1 b0 b1 ne hl => absurd hl (by omega)⟩
  have q := h b b0 (by omega)
  have r := g2 b b0 b1
  refine ⟨⟨r, Int.le_refl 0, (by decide : (0 : Int) ≤ 1), Int.le_refl 0, (by decide : (0 : Int) ≤ 81 * (1 - 1) + 9 * 0 + 0)⟩, fun hb => ?_, fun hb => Or.inl ?_⟩
  · have r2 := g3 b b0 b1 hb
    rcases q with q | q
    · exact ⟨r2, q.2.2, q.2.1, rfl⟩
    · omega
  · rcases q with q | q
    · omega
    · exact ⟨q.2.2, q.2.1, rfl⟩
theorem pig : ∀ (n : Nat) (g : Int → Int), (∀ j : Int, 0 ≤ j → j ≤ n → ∃ u : Int, 0 ≤ u ∧ u < n ∧ g u = j) → False := by
  intro n
  induction n with
  | zero =>
    intro g h
    obtain ⟨u, u0, u1, _⟩ := h 0 (by omega) (by omega)
    omega
  | succ n ih =>
    intro g h
    refine ih (fun u => if g u = (n : Int) + 1 then g (n : Int) else g u) (fun j j0 j1 => ?_)
    obtain ⟨u, u0, u1, u2⟩ := h j j0 (by omega)
    by_cases e : u = (n : Int)
    · obtain ⟨w, w0, w1, w2⟩ := h ((n : Int) + 1) (by omega) (by omega)
      have ne : w ≠ (n : Int) := by
        intro q
        rw [q, ← e] at w2
        omega
      refine ⟨w, w0, by omega, ?_⟩
      show (if g w = (n : Int) + 1 then g (n : Int) else g w) = j
      rw [if_pos w2, ← e]
      exact u2
    · refine ⟨u, u0, by omega, ?_⟩
      show (if g u = (n : Int) + 1 then g (n : Int) else g u) = j
      rw [if_neg (by omega)]
      exact u2
theorem BF_chain {A : Nat → List Int32} {π t la : Int → Int} {p k U : Int} (h : ∀ b : Int, 0 ≤ b → b < p → NF A π t la p k U b) (hR : RC A π p) (U0 : 0 ≤ U) (U1 : U < 1000) : ∀ (N : Nat) (b : Int), 0 ≤ b → b < p → fr (A 165) b ≠ 1000000 → 1000 * (fr (A 165) b - π b) + t b < N → ∀ j : Int, 0 ≤ j → j ≤ la b → ∃ u : Int, 0 ≤ u ∧ u < p ∧ la u = j := by
  intro N
  induction N with
  | zero =>
    intro b b0 b1 hm hN
    have g := NF_pi (h b b0 b1) U0 hm
    have g2 := (h b b0 b1).1
    omega
  | succ N ih =>
    intro b b0 b1 hm hN j j0 j1
    have nb := h b b0 b1
    by_cases hb : 0 < fr (A 163) b
    · have g := nb.2.1 hb
      exact ⟨b, b0, b1, by omega⟩
    · rcases nb.2.2 (by omega) with g | ⟨c1, c2, c3, c4, c5, c6, c7, c8, c9⟩
      · exact absurd g.1 hm
      · by_cases e : j = la b
        · exact ⟨b, b0, b1, e.symm⟩
        · have r := hR (fr (A 164) b) b c3 c4 b0 b1 c5
          have na := (h (fr (A 164) b) c3 c4).1
          have gb := nb.1
          exact ih (fr (A 164) b) c3 c4 c6 (by omega) j j0 (by omega)
/-- behind the turns: prices are potentials, and each one's way leads to one who has more -/
def GW (A : Nat → List Int32) (rk : Int → Nat) (p : Int) : Prop := (∀ a b : Int, 0 ≤ a → a < p → 0 ≤ b → b < p → a ≠ b → 0 ≤ pv A a b + fr (A 165) a - fr (A 165) b) ∧ (∀ b : Int, 0 ≤ b → b < p → -1000 ≤ fr (A 165) b ∧ (0 < fr (A 163) b → fr (A 165) b = 0 ∧ fr (A 164) b = b) ∧ (fr (A 163) b ≤ 0 → 0 ≤ fr (A 164) b ∧ fr (A 164) b < p ∧ fr (A 164) b ≠ b ∧ rk (fr (A 164) b) < rk b ∧ pv A (fr (A 164) b) b + fr (A 165) (fr (A 164) b) - fr (A 165) b = 0))
theorem BF_end {A : Nat → List Int32} {p s : Int} (h : BF A p 11 0 0) (p9 : p ≤ 9) (s0 : 0 ≤ s) (s1 : s < p) (hs : 0 < fr (A 163) s) : ∃ rk : Int → Nat, GW A rk p := by
  obtain ⟨π, t, la, h1, h2, h3, h4⟩ := h
  have la8 : ∀ b : Int, 0 ≤ b → b < p → fr (A 165) b ≠ 1000000 → la b ≤ 8 := by
    intro b b0 b1 hm
    refine Classical.byContradiction (fun hc => ?_)
    have g := NF_pi (h2 b b0 b1) (by omega) hm
    have g2 := (h2 b b0 b1).1
    refine pig 9 la (fun j j0 j1 => ?_)
    obtain ⟨u, u0, u1, u2⟩ := BF_chain h2 h1 (by omega) (by omega) (1000 * (fr (A 165) b - π b) + t b + 1).toNat b b0 b1 hm (by omega) j j0 (by omega)
    exact ⟨u, u0, by omega, u2⟩
  have cv : ∀ a b : Int, 0 ≤ a → a < p → 0 ≤ b → b < p → a ≠ b → fr (A 165) a ≠ 1000000 → fr (A 165) b ≤ fr (A 165) a + pv A a b := by
    intro a b a0 a1 b0 b1 ne hm
    have g := la8 a a0 a1 hm
    exact h3 a b a0 a1 b0 b1 ne hm (by omega)
  have ns := (h2 s s0 s1).2.1 hs
  have nm : ∀ b : Int, 0 ≤ b → b < p → fr (A 165) b ≠ 1000000 := by
    intro b b0 b1
    by_cases e : s = b
    · rw [← e]
      omega
    · have g := cv s b s0 s1 b0 b1 e (by omega)
      have g2 := @pv_b A s b
      omega
  refine ⟨fun b => (1000 * (fr (A 165) b - π b) + t b).toNat, fun a b a0 a1 b0 b1 ne => ?_, fun b b0 b1 => ?_⟩
  · have g := cv a b a0 a1 b0 b1 ne (nm a a0 a1)
    omega
  · have nb := h2 b b0 b1
    have g := NF_pi nb (by omega) (nm b b0 b1)
    refine ⟨by have g1 := nb.1; omega, fun hb => ?_, fun hb => ?_⟩
    · have q := nb.2.1 hb
      exact ⟨q.2.1, q.2.2.1⟩
    · rcases nb.2.2 hb with q | ⟨c1, c2, c3, c4, c5, c6, c7, c8, c9⟩
      · exact absurd q.1 (nm b b0 b1)
      · have r := h1 (fr (A 164) b) b c3 c4 b0 b1 c5
        have na := (h2 (fr (A 164) b) c3 c4).1
        have gb := nb.1
        have ga := NF_pi (h2 (fr (A 164) b) c3 c4) (by omega) c6
        have v := cv (fr (A 164) b) b c3 c4 b0 b1 c5 c6
        refine ⟨c3, c4, c5, ?_, by omega⟩
        show (1000 * (fr (A 165) (fr (A 164) b) - π (fr (A 164) b)) + t (fr (A 164) b)).toNat < (1000 * (fr (A 165) b - π b) + t b).toNat
        omega
