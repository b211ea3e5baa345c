/-! ===== the reference reads a text ===== -/
def msr (f : Nat → Int32) : Int := 5 * (f 3).toInt - (f 5).toInt + 5000 * (f 8).toInt
def JJ (f : Nat → Int32) (A : Nat → List Int32) : Prop := (f 8).toInt = 1 → fr (A 148) 3 ≠ 0
def TX (f f' : Nat → Int32) (A A' : Nat → List Int32) : Prop := (fr (A 148) 3 ≠ 0 → fr (A' 148) 3 ≠ 0) ∧ (∀ j : Int, 0 ≤ j → j ≠ 3 → j ≠ 4 → fr (A' 148) j = fr (A 148) j) ∧ msr f ≤ msr f' ∧ (f 9).toInt ≤ (f' 9).toInt ∧ JJ f' A'
def TS (f f' : Nat → Int32) : Prop := (f 8).toInt = 0 → msr f < msr f'
section TXS
variable {f f1 f2 : Nat → Int32} {A A1 A2 : Nat → List Int32}
theorem TX_refl (h : JJ f A) : TX f f A A := ⟨fun z => z, fun _ _ _ _ => rfl, Int.le_refl _, Int.le_refl _, h⟩
theorem TX_trans (h : TX f f1 A A1) (g : TX f1 f2 A1 A2) : TX f f2 A A2 := ⟨fun z => g.1 (h.1 z), fun j j0 j3 j4 => (g.2.1 j j0 j3 j4).trans (h.2.1 j j0 j3 j4), Int.le_trans h.2.2.1 g.2.2.1, Int.le_trans h.2.2.2.1 g.2.2.2.1, g.2.2.2.2⟩
theorem ms_eq (e3 : f2 3 = f1 3) (e5 : f2 5 = f1 5) (e8 : f2 8 = f1 8) : msr f2 = msr f1 := by
  unfold msr
  rw [e3, e5, e8]
theorem TX_fr (h : TX f f1 A A1) (e3 : f2 3 = f1 3) (e5 : f2 5 = f1 5) (e8 : f2 8 = f1 8) (h9 : (f1 9).toInt ≤ (f2 9).toInt) (eA : A2 148 = A1 148) : TX f f2 A A2 := by
  refine ⟨fun z => ?_, fun j j0 j3 j4 => ?_, ?_, Int.le_trans h.2.2.2.1 h9, fun z => ?_⟩
  · rw [eA]
    exact h.1 z
  · rw [eA]
    exact h.2.1 j j0 j3 j4
  · rw [ms_eq e3 e5 e8]
    exact h.2.2.1
  · rw [eA]
    rw [e8] at z
    exact h.2.2.2.2 z
theorem TX_set {i : Int} {v : Int32} (h : TX f f1 A A1) (e : A2 = upa A1 148 ((A1 148).set i.toNat v)) (hl : (A1 148).length = 6760) (hi : i = 3 ∨ i = 4) (hv : i = 3 → v.toInt ≠ 0) : TX f f1 A A2 := by
  have q := upa_at e
  have g : fr (A1 148) 3 ≠ 0 → fr (A2 148) 3 ≠ 0 := by
    intro z
    rw [q]
    rcases hi with rfl | rfl
    · rw [fr_eq (by decide) (by omega)]
      exact hv rfl
    · rw [fr_ne (by decide) (by decide) (by decide)]
      exact z
  refine ⟨fun z => g (h.1 z), fun j j0 j3 j4 => ?_, h.2.2.1, h.2.2.2.1, fun z => g (h.2.2.2.2 z)⟩
  rw [q, fr_ne (by omega) j0 (by omega)]
  exact h.2.1 j j0 j3 j4
theorem set3_ne {v w : Int32} (e1 : A1 = upa A 148 ((A 148).set (3 : Int).toNat v)) (e2 : A2 = upa A1 148 ((A1 148).set (4 : Int).toNat w)) (hl : (A 148).length = 6760) (hv : v.toInt ≠ 0) : fr (A2 148) 3 ≠ 0 := by
  rw [upa_at e2, fr_ne (by decide) (by decide) (by decide), upa_at e1, fr_eq (by decide) (by omega)]
  exact hv
theorem TX_ends {v w x : Int32} (ef : f1 = upf f 8 x) (hx : x.toInt = 1) (h8 : (f 8).toInt = 0) (e1 : A1 = upa A 148 ((A 148).set (3 : Int).toNat v)) (e2 : A2 = upa A1 148 ((A1 148).set (4 : Int).toNat w)) (hl : (A 148).length = 6760) (hv : v.toInt ≠ 0) : TX f f1 A A2 ∧ TS f f1 := by
  have q := set3_ne e1 e2 hl hv
  have hm : msr f < msr f1 := by
    unfold msr
    rw [upf_fr ef (by decide : (3 : Nat) ≠ 8), upf_fr ef (by decide : (5 : Nat) ≠ 8), upf_at ef]
    omega
  refine ⟨⟨fun _ => q, fun j j0 j3 j4 => ?_, by omega, ?_, fun _ => q⟩, fun _ => hm⟩
  · rw [upa_at e2, fr_ne (by decide) j0 (by omega), upa_at e1, fr_ne (by decide) j0 (by omega)]
  · rw [upf_fr ef (by decide : (9 : Nat) ≠ 8)]
    exact Int.le_refl _
theorem TX_adv (h : TX f f1 A A1) (hx : ((f2 5).toInt + (-5) * (f2 3).toInt + 5 * (f1 3).toInt) ≤ 0) (e8 : f2 8 = f1 8) (e9 : f2 9 = f1 9) (h5 : 0 ≤ (f1 5).toInt) : TX f f2 A A1 := by
  refine ⟨h.1, h.2.1, ?_, ?_, fun z => ?_⟩
  · have g := h.2.2.1
    unfold msr at g ⊢
    rw [e8]
    omega
  · rw [e9]
    exact h.2.2.2.1
  · rw [e8] at z
    exact h.2.2.2.2 z
theorem TS_adv (hx : ((f2 5).toInt + (-5) * (f2 3).toInt + 5 * (f1 3).toInt) ≤ 0) (e8 : f2 8 = f1 8) (h5 : 1 ≤ (f1 5).toInt) : TS f1 f2 := by
  intro _
  unfold msr
  rw [e8]
  omega
theorem TS_w (h : TS f f1) (g : msr f1 ≤ msr f2) : TS f f2 := fun z => Int.lt_of_lt_of_le (h z) g
end TXS
/-- a village that is being read -/
def TVi (i x g ft : Int) : Prop := (i = 0 → 0 ≤ x ∧ x ≤ 9) ∧ (i = 1 → 0 ≤ x ∧ (ft = 0 → x ≤ 7)) ∧ (3 ≤ i ∧ i < 84 → 0 ≤ x ∧ x ≤ 99) ∧ (102 ≤ i ∧ i < 130 ∧ ((i - 102) % 4 = 0 ∨ (i - 102) % 4 = 1) → 0 ≤ x ∧ x ≤ 8 ∧ x ≤ g) ∧ (102 ≤ i ∧ i < 130 ∧ (i - 102) % 4 = 2 → 0 ≤ x ∧ x ≤ 99)
def TV (c : List Int32) (g ft : Int) : Prop := ∀ i : Int, 0 ≤ i → i < 272 → TVi i (fr c i) g ft
theorem TV_set {c : List Int32} {g ft i : Int} {v : Int32} (h : TV c g ft) (i0 : 0 ≤ i) (i1 : i < 272) (hl : c.length = 272) (hv : TVi i v.toInt g ft) : TV (c.set i.toNat v) g ft := by
  intro j j0 j1
  by_cases e : i = j
  · rw [← e, fr_eq i0 (by omega)]
    exact hv
  · rw [fr_ne i0 j0 e]
    exact h j j0 j1
theorem TV_up {c : List Int32} {g ft g' ft' : Int} (h : TV c g ft) (hg : g ≤ g') (hf : ft ≠ 0 → ft' ≠ 0) : TV c g' ft' := by
  intro j j0 j1
  obtain ⟨h1, h2, h3, h4, h5⟩ := h j j0 j1
  refine ⟨h1, fun e => ⟨(h2 e).1, fun z => ?_⟩, h3, fun e => ?_, h5⟩
  · refine (h2 e).2 (Classical.byContradiction (fun q => hf q z))
  · have q := h4 e
    omega
theorem TV_tx {c c' : List Int32} {f f' : Nat → Int32} {A A' : Nat → List Int32} (h : TV c (f 9).toInt (fr (A 148) 3)) (t : TX f f' A A') (e : c' = c) : TV c' (f' 9).toInt (fr (A' 148) 3) := by
  rw [e]
  exact TV_up h t.2.2.2.1 t.1
theorem TV_zero {c : List Int32} {g ft : Int} (h : ∀ j : Int, 0 ≤ j → j < 272 → 0 ≤ (c.getD j.toNat 0).toInt ∧ (c.getD j.toNat 0).toInt ≤ 0) (hg : 0 ≤ g) : TV c g ft := by
  intro j j0 j1
  have q := h j j0 j1
  have e : fr c j = 0 := by
    unfold fr
    omega
  rw [e]
  unfold TVi
  omega
/-- a row that is being read -/
def TR (c : List Int32) (ft : Int) : Prop := (0 ≤ fr c 0 ∧ (ft = 0 → fr c 0 ≤ 30)) ∧ ∀ b : Int, 0 ≤ b → b ≤ 29 → MRA (fr c (1 + 9 * b)) (fr c (2 + 9 * b)) (fr c (4 + 9 * b))
def TQ (c e : List Int32) (n k kind : Int) : Prop := (∀ b : Int, 0 ≤ b → b ≤ 29 → b ≠ n → MRA (fr c (1 + 9 * b)) (fr c (2 + 9 * b)) (fr c (4 + 9 * b))) ∧ fr c 0 = n ∧ fr c (1 + 9 * n) = kind ∧ (∀ j : Int, 0 ≤ j → j < k → fr c (2 + 9 * n + j) = fr e j)
theorem TR_zero {c : List Int32} {ft : Int} (h : ∀ j : Int, 0 ≤ j → j < 272 → 0 ≤ (c.getD j.toNat 0).toInt ∧ (c.getD j.toNat 0).toInt ≤ 0) : TR c ft := by
  have z : ∀ j : Int, 0 ≤ j → j < 272 → fr c j = 0 := by
    intro j j0 j1
    have q := h j j0 j1
    unfold fr
    omega
  refine ⟨?_, fun b b0 b1 => ?_⟩
  · rw [z 0 (by decide) (by decide)]
    omega
  · rw [z _ (by omega) (by omega), z _ (by omega) (by omega), z _ (by omega) (by omega)]
    unfold MRA
    omega
theorem TR_up {c : List Int32} {ft ft' : Int} (h : TR c ft) (hf : ft ≠ 0 → ft' ≠ 0) : TR c ft' := ⟨⟨h.1.1, fun z => h.1.2 (Classical.byContradiction (fun q => hf q z))⟩, h.2⟩
theorem TR_many {c : List Int32} {ft : Int} {v : Int32} (h : TR c ft) (hl : c.length = 272) (v0 : 0 ≤ v.toInt) (hv : ft = 0 → v.toInt ≤ 30) : TR (c.set (0 : Int).toNat v) ft := by
  refine ⟨?_, fun b b0 b1 => ?_⟩
  · rw [fr_eq (by decide) (by omega)]
    exact ⟨v0, hv⟩
  · rw [fr_ne (by decide) (by omega) (by omega), fr_ne (by decide) (by omega) (by omega), fr_ne (by decide) (by omega) (by omega)]
    exact h.2 b b0 b1
theorem TQ_zero {c e : List Int32} {n : Int} {ft : Int} {v : Int32} (h : TR c ft) (hn : fr c 0 = n) (n0 : 0 ≤ n) (n1 : n ≤ 29) (hl : c.length = 272) : TQ (c.set (1 + 9 * n).toNat v) e n 0 v.toInt := by
  refine ⟨fun b b0 b1 ne => ?_, ?_, ?_, fun j j0 j1 => absurd j1 (by omega)⟩
  · rw [fr_ne (by omega) (by omega) (by omega), fr_ne (by omega) (by omega) (by omega), fr_ne (by omega) (by omega) (by omega)]
    exact h.2 b b0 b1
  · rw [fr_ne (by omega) (by decide) (by omega)]
    exact hn
  · rw [fr_eq (by omega) (by omega)]
theorem TQ_step {c e : List Int32} {n k kind : Int} {v : Int32} (h : TQ c e n k kind) (n0 : 0 ≤ n) (n1 : n ≤ 29) (k0 : 0 ≤ k) (k1 : k ≤ 7) (hl : c.length = 272) (hv : v.toInt = fr e k) : TQ (c.set (2 + 9 * n + k).toNat v) e n (k + 1) kind := by
  obtain ⟨h1, h2, h3, h4⟩ := h
  refine ⟨fun b b0 b1 ne => ?_, ?_, ?_, fun j j0 j1 => ?_⟩
  · rw [fr_ne (by omega) (by omega) (by omega), fr_ne (by omega) (by omega) (by omega), fr_ne (by omega) (by omega) (by omega)]
    exact h1 b b0 b1 ne
  · rw [fr_ne (by omega) (by decide) (by omega)]
    exact h2
  · rw [fr_ne (by omega) (by omega) (by omega)]
    exact h3
  · by_cases e1 : j = k
    · rw [e1, fr_eq (by omega) (by omega)]
      exact hv
    · rw [fr_ne (by omega) (by omega) (by omega)]
      exact h4 j j0 (by omega)
theorem TQ_end {c e : List Int32} {n kind ft k : Int} (h : TQ c e n k kind) (hk : 8 ≤ k) (n0 : 0 ≤ n) (hf : ft = 0 → n ≤ 30) (hm : MRA kind (fr e 0) (fr e 2)) : TR c ft := by
  obtain ⟨h1, h2, h3, h4⟩ := h
  refine ⟨by rw [h2]; exact ⟨n0, hf⟩, fun b b0 b1 => ?_⟩
  by_cases e1 : b = n
  · have a := h4 0 (by decide) (by omega)
    have b2 := h4 2 (by decide) (by omega)
    rw [e1, h3, show 2 + 9 * n = 2 + 9 * n + 0 by omega, show 4 + 9 * n = 2 + 9 * n + 2 by omega, a, b2]
    exact hm
  · exact h1 b b0 b1 e1
/-! ===== without what is told ===== -/
def MJ (f : Nat → Int32) (A : Nat → List Int32) : Prop := (∀ j, MF j (f j).toInt) ∧ (∀ k, 148 ≤ k → k < 167 → (A k).length = ml k) ∧ (∀ k i, MP k i ((A k).getD i 0).toInt)
theorem MJ_of {f : Nat → Int32} {A : Nat → List Int32} (h : MI f A) : MJ f A := ⟨h.1, h.2.1, h.2.2.2.1⟩
def CP (c' c y : List Int32) (d s n : Int) : Prop := (∀ i : Int, 0 ≤ i → i < n → fr c' (d + i) = fr y (s + i)) ∧ (∀ j : Int, 0 ≤ j → (j < d ∨ d + n ≤ j) → fr c' j = fr c j)
theorem CP_zero {c y : List Int32} {d s n : Int} (hn : n = 0) : CP c c y d s n := ⟨fun i i0 i1 => absurd i1 (by omega), fun _ _ _ => rfl⟩
theorem CP_step {c' c y : List Int32} {d s n : Int} {v : Int32} (h : CP c' c y d s n) (d0 : 0 ≤ d) (n0 : 0 ≤ n) (hl : d + n < c'.length) (hv : v.toInt = fr y (s + n)) : CP (c'.set (d + n).toNat v) c y d s (n + 1) := by
  refine ⟨fun i i0 i1 => ?_, fun j j0 hj => ?_⟩
  · by_cases e : i = n
    · rw [e, fr_eq (by omega) hl]
      exact hv
    · rw [fr_ne (by omega) (by omega) (by omega)]
      exact h.1 i i0 (by omega)
  · rw [fr_ne (by omega) j0 (by omega)]
    exact h.2 j j0 (by omega)
theorem fr_nat {c : List Int32} {n : Nat} : (c.getD n 0).toInt = fr c (n : Int) := by
  unfold fr
  rw [show (n : Int).toNat = n by omega]
theorem MI_of {f : Nat → Int32} {A : Nat → List Int32} (h : MJ f A) (ht : ∀ c i : Int, 0 ≤ c → c < 4 → 0 ≤ i → i < 1690 → MT i.toNat (fr (A 148) (1690 * c + i))) (hr : ∀ c a b : Int, 0 ≤ c → c < 4 → 0 ≤ a ∧ a ≤ 2 → 0 ≤ b ∧ b ≤ 29 → MRA (fr (A 148) (1690 * c + (875 + 272 * a + 9 * b))) (fr (A 148) (1690 * c + (875 + 272 * a + 9 * b) + 1)) (fr (A 148) (1690 * c + (875 + 272 * a + 9 * b) + 3))) (hw : ∀ c a w : Int, 0 ≤ c → c < 4 → 0 ≤ a → a < 2 → 0 ≤ w → w < fr (A 148) (1690 * c + (611 + 132 * a)) → fr (A 148) (1690 * c + (712 + 132 * a + 4 * w)) < fr (A 148) (1690 * c + (610 + 132 * a)) ∧ fr (A 148) (1690 * c + (713 + 132 * a + 4 * w)) < fr (A 148) (1690 * c + (610 + 132 * a))) : MI f A := by
  refine ⟨h.1, h.2.1, fun c i c1 i1 => ?_, h.2.2, hr, fun c a w c1 a1 hw1 => ?_⟩
  · have q := ht (c : Int) (i : Int) (by omega) (by omega) (by omega) (by omega)
    rw [show (i : Int).toNat = i by omega] at q
    rw [fr_nat, show ((1690 * c + i : Nat) : Int) = 1690 * (c : Int) + (i : Int) by omega]
    exact q
  · rw [fr_nat, show ((1690 * c + (611 + 132 * a) : Nat) : Int) = 1690 * (c : Int) + (611 + 132 * (a : Int)) by omega] at hw1
    have q := hw (c : Int) (a : Int) (w : Int) (by omega) (by omega) (by omega) (by omega) (by omega) hw1
    rw [fr_nat, fr_nat, fr_nat, show ((1690 * c + (712 + 132 * a + 4 * w) : Nat) : Int) = 1690 * (c : Int) + (712 + 132 * (a : Int) + 4 * (w : Int)) by omega, show ((1690 * c + (713 + 132 * a + 4 * w) : Nat) : Int) = 1690 * (c : Int) + (713 + 132 * (a : Int) + 4 * (w : Int)) by omega, show ((1690 * c + (610 + 132 * a) : Nat) : Int) = 1690 * (c : Int) + (610 + 132 * (a : Int)) by omega]
    exact q
theorem MI_t {f : Nat → Int32} {A : Nat → List Int32} (h : MI f A) {c i : Int} (c0 : 0 ≤ c) (c1 : c < 4) (i0 : 0 ≤ i) (i1 : i < 1690) : MT i.toNat (fr (A 148) (1690 * c + i)) := by
  have q := h.2.2.1 c.toNat i.toNat (by omega) (by omega)
  rw [fr_nat, show ((1690 * c.toNat + i.toNat : Nat) : Int) = 1690 * c + i by omega] at q
  exact q
theorem MI_w {f : Nat → Int32} {A : Nat → List Int32} (h : MI f A) {c a w : Int} (c0 : 0 ≤ c) (c1 : c < 4) (a0 : 0 ≤ a) (a1 : a < 2) (w0 : 0 ≤ w) (hw : w < fr (A 148) (1690 * c + (611 + 132 * a))) : fr (A 148) (1690 * c + (712 + 132 * a + 4 * w)) < fr (A 148) (1690 * c + (610 + 132 * a)) ∧ fr (A 148) (1690 * c + (713 + 132 * a + 4 * w)) < fr (A 148) (1690 * c + (610 + 132 * a)) := by
  have q := h.2.2.2.2.2 c.toNat a.toNat w.toNat (by omega) (by omega)
  rw [fr_nat, fr_nat, fr_nat, fr_nat, show ((1690 * c.toNat + (611 + 132 * a.toNat) : Nat) : Int) = 1690 * c + (611 + 132 * a) by omega, show ((1690 * c.toNat + (712 + 132 * a.toNat + 4 * w.toNat) : Nat) : Int) = 1690 * c + (712 + 132 * a + 4 * w) by omega, show ((1690 * c.toNat + (713 + 132 * a.toNat + 4 * w.toNat) : Nat) : Int) = 1690 * c + (713 + 132 * a + 4 * w) by omega, show ((1690 * c.toNat + (610 + 132 * a.toNat) : Nat) : Int) = 1690 * c + (610 + 132 * a) by omega] at q
  exact q (by omega)
/-- a village told anew -/
theorem MI_vil {f : Nat → Int32} {A A' : Nat → List Int32} {y : List Int32} {k g : Int} (h : MI f A) (j : MJ f A') (cp : CP (A' 148) (A 148) y (610 + 132 * k) 0 132) (k0 : 0 ≤ k) (k1 : k ≤ 1) (tv : TV y g 0) (hg : g < fr y 0) : MI f A' := by
  have inb : ∀ i : Int, 0 ≤ i → i < 132 → fr (A' 148) (610 + 132 * k + i) = fr y i := by
    intro i i0 i1
    have q := cp.1 i i0 i1
    rw [Int.zero_add] at q
    exact q
  have out : ∀ c i : Int, 0 ≤ c → c < 4 → 0 ≤ i → i < 1690 → (c ≠ 0 ∨ i < 610 + 132 * k ∨ 742 + 132 * k ≤ i) → fr (A' 148) (1690 * c + i) = fr (A 148) (1690 * c + i) := by
    intro c i c0 c1 i0 i1 hs
    rcases hs with hs | hs | hs
    · exact cp.2 _ (by omega) (by omega)
    · by_cases ec : c = 0
      · exact cp.2 _ (by omega) (by omega)
      · exact cp.2 _ (by omega) (by omega)
    · exact cp.2 _ (by omega) (by omega)
  refine MI_of j (fun c i c0 c1 i0 i1 => ?_) (fun c a b c0 c1 a0 b0 => ?_) (fun c a w c0 c1 a0 a1 w0 hw => ?_)
  · by_cases e : c = 0 ∧ 610 + 132 * k ≤ i ∧ i < 742 + 132 * k
    · have t := tv (i - (610 + 132 * k)) (by omega) (by omega)
      have q := inb (i - (610 + 132 * k)) (by omega) (by omega)
      rw [show 1690 * c + i = 610 + 132 * k + (i - (610 + 132 * k)) by omega, q]
      generalize fr y (i - (610 + 132 * k)) = x at t
      unfold TVi at t
      unfold MT
      have hk : k = 0 ∨ k = 1 := by omega
      refine ⟨fun z => ?_, fun z => ?_, fun z => ?_, fun z => ?_, fun z => ?_, fun z => ?_, fun z => ?_, fun z => ?_, fun z => ?_⟩ <;> rcases hk with rfl | rfl <;> omega
    · rw [out c i c0 c1 i0 i1 (by omega)]
      exact MI_t h c0 c1 i0 i1
  · rw [show 1690 * c + (875 + 272 * a + 9 * b) + 1 = 1690 * c + (875 + 272 * a + 9 * b + 1) by omega, show 1690 * c + (875 + 272 * a + 9 * b) + 3 = 1690 * c + (875 + 272 * a + 9 * b + 3) by omega, out c _ c0 c1 (by omega) (by omega) (by omega), out c _ c0 c1 (by omega) (by omega) (by omega), out c _ c0 c1 (by omega) (by omega) (by omega)]
    have q := h.2.2.2.2.1 c a b c0 c1 a0 b0
    rw [show 1690 * c + (875 + 272 * a + 9 * b) + 1 = 1690 * c + (875 + 272 * a + 9 * b + 1) by omega, show 1690 * c + (875 + 272 * a + 9 * b) + 3 = 1690 * c + (875 + 272 * a + 9 * b + 3) by omega] at q
    exact q
  · by_cases e : c = 0 ∧ a = k
    · obtain ⟨rfl, rfl⟩ := e
      have q1 := inb 1 (by decide) (by decide)
      rw [show 1690 * 0 + (611 + 132 * a) = 610 + 132 * a + 1 by omega, q1] at hw
      have t1 := (tv 1 (by decide) (by decide)).2.1 rfl
      have t1b := t1.2 rfl
      have qa := inb (102 + 4 * w) (by omega) (by omega)
      have qb := inb (103 + 4 * w) (by omega) (by omega)
      have q0 := inb 0 (by decide) (by decide)
      have ta := (tv (102 + 4 * w) (by omega) (by omega)).2.2.2.1 (by omega)
      have tb := (tv (103 + 4 * w) (by omega) (by omega)).2.2.2.1 (by omega)
      rw [show 1690 * 0 + (712 + 132 * a + 4 * w) = 610 + 132 * a + (102 + 4 * w) by omega, show 1690 * 0 + (713 + 132 * a + 4 * w) = 610 + 132 * a + (103 + 4 * w) by omega, show 1690 * 0 + (610 + 132 * a) = 610 + 132 * a + 0 by omega, qa, qb, q0]
      omega
    · have hs : c ≠ 0 ∨ a < k ∨ k < a := by omega
      have o1 := out c (611 + 132 * a) c0 c1 (by omega) (by omega) (by rcases hs with hs | hs | hs <;> omega)
      rw [o1] at hw
      have t := (MI_t h (c := c) (i := 611 + 132 * a) c0 c1 (by omega) (by omega)).2.2.2.2.1 (by have ha : a = 0 ∨ a = 1 := by omega
                                                                                                 rcases ha with rfl | rfl <;> omega)
      rw [out c (712 + 132 * a + 4 * w) c0 c1 (by omega) (by omega) (by rcases hs with hs | hs | hs <;> omega), out c (713 + 132 * a + 4 * w) c0 c1 (by omega) (by omega) (by rcases hs with hs | hs | hs <;> omega), out c (610 + 132 * a) c0 c1 (by omega) (by omega) (by rcases hs with hs | hs | hs <;> omega)]
      exact MI_w h c0 c1 a0 a1 w0 hw
/-- a row told anew -/
theorem MI_rw {f : Nat → Int32} {A A' : Nat → List Int32} {y : List Int32} {k : Int} (h : MI f A) (j : MJ f A') (cp : CP (A' 148) (A 148) y (874 + 272 * k) 0 272) (k0 : 0 ≤ k) (k1 : k ≤ 2) (tr_ : TR y 0) : MI f A' := by
  have inb : ∀ i : Int, 0 ≤ i → i < 272 → fr (A' 148) (874 + 272 * k + i) = fr y i := by
    intro i i0 i1
    have q := cp.1 i i0 i1
    rw [Int.zero_add] at q
    exact q
  have out : ∀ c i : Int, 0 ≤ c → c < 4 → 0 ≤ i → i < 1690 → (c ≠ 0 ∨ i < 874 + 272 * k ∨ 1146 + 272 * k ≤ i) → fr (A' 148) (1690 * c + i) = fr (A 148) (1690 * c + i) := by
    intro c i c0 c1 i0 i1 hs
    rcases hs with hs | hs | hs
    · exact cp.2 _ (by omega) (by omega)
    · by_cases ec : c = 0
      · exact cp.2 _ (by omega) (by omega)
      · exact cp.2 _ (by omega) (by omega)
    · exact cp.2 _ (by omega) (by omega)
  refine MI_of j (fun c i c0 c1 i0 i1 => ?_) (fun c a b c0 c1 a0 b0 => ?_) (fun c a w c0 c1 a0 a1 w0 hw => ?_)
  · by_cases e : c = 0 ∧ 874 + 272 * k ≤ i ∧ i < 1146 + 272 * k
    · have q := inb (i - (874 + 272 * k)) (by omega) (by omega)
      rw [show 1690 * c + i = 874 + 272 * k + (i - (874 + 272 * k)) by omega, q]
      have t := tr_.1
      have hk : k = 0 ∨ k = 1 ∨ k = 2 := by omega
      unfold MT
      refine ⟨fun z => by omega, fun z => by omega, fun z => by omega, fun z => by omega, fun z => by omega, fun z => ?_, fun z => by omega, fun z => by omega, fun z => by omega⟩
      have ei : i - (874 + 272 * k) = 0 := by rcases hk with rfl | rfl | rfl <;> omega
      rw [ei]
      have t2 := t.2 rfl
      omega
    · rw [out c i c0 c1 i0 i1 (by omega)]
      exact MI_t h c0 c1 i0 i1
  · by_cases e : c = 0 ∧ a = k
    · obtain ⟨rfl, rfl⟩ := e
      have t := tr_.2 b b0.1 b0.2
      rw [show 1690 * 0 + (875 + 272 * a + 9 * b) = 874 + 272 * a + (1 + 9 * b) by omega, show 874 + 272 * a + (1 + 9 * b) + 1 = 874 + 272 * a + (2 + 9 * b) by omega, show 874 + 272 * a + (1 + 9 * b) + 3 = 874 + 272 * a + (4 + 9 * b) by omega, inb _ (by omega) (by omega), inb _ (by omega) (by omega), inb _ (by omega) (by omega)]
      exact t
    · have hs : c ≠ 0 ∨ a < k ∨ k < a := by omega
      rw [show 1690 * c + (875 + 272 * a + 9 * b) + 1 = 1690 * c + (875 + 272 * a + 9 * b + 1) by omega, show 1690 * c + (875 + 272 * a + 9 * b) + 3 = 1690 * c + (875 + 272 * a + 9 * b + 3) by omega, out c _ c0 c1 (by omega) (by omega) (by rcases hs with hs | hs | hs <;> omega), out c _ c0 c1 (by omega) (by omega) (by rcases hs with hs | hs | hs <;> omega), out c _ c0 c1 (by omega) (by omega) (by rcases hs with hs | hs | hs <;> omega)]
      have q := h.2.2.2.2.1 c a b c0 c1 a0 b0
      rw [show 1690 * c + (875 + 272 * a + 9 * b) + 1 = 1690 * c + (875 + 272 * a + 9 * b + 1) by omega, show 1690 * c + (875 + 272 * a + 9 * b) + 3 = 1690 * c + (875 + 272 * a + 9 * b + 3) by omega] at q
      exact q
  · have o1 := out c (611 + 132 * a) c0 c1 (by omega) (by omega) (by omega)
    rw [o1] at hw
    have t := (MI_t h (c := c) (i := 611 + 132 * a) c0 c1 (by omega) (by omega)).2.2.2.2.1 (by have ha : a = 0 ∨ a = 1 := by omega
                                                                                               rcases ha with rfl | rfl <;> omega)
    rw [out c (712 + 132 * a + 4 * w) c0 c1 (by omega) (by omega) (by omega), out c (713 + 132 * a + 4 * w) c0 c1 (by omega) (by omega) (by omega), out c (610 + 132 * a) c0 c1 (by omega) (by omega) (by omega)]
    exact MI_w h c0 c1 a0 a1 w0 hw
/-- an image: all that is told, from block t to block d -/
theorem MI_img {f : Nat → Int32} {A A' : Nat → List Int32} {d t : Int} (h : MI f A) (j : MJ f A') (cp : CP (A' 148) (A 148) (A 148) (1690 * d) (1690 * t) 1690) (d0 : 0 ≤ d) (d1 : d < 4) (t0 : 0 ≤ t) (t1 : t < 4) : MI f A' := by
  have ex : ∀ c : Int, 0 ≤ c → c < 4 → ∃ c2 : Int, 0 ≤ c2 ∧ c2 < 4 ∧ ∀ i : Int, 0 ≤ i → i < 1690 → fr (A' 148) (1690 * c + i) = fr (A 148) (1690 * c2 + i) := by
    intro c c0 c1
    by_cases e : c = d
    · rw [e]
      exact ⟨t, t0, t1, fun i i0 i1 => cp.1 i i0 i1⟩
    · exact ⟨c, c0, c1, fun i i0 i1 => cp.2 _ (by omega) (by omega)⟩
  refine MI_of j (fun c i c0 c1 i0 i1 => ?_) (fun c a b c0 c1 a0 b0 => ?_) (fun c a w c0 c1 a0 a1 w0 hw => ?_)
  · obtain ⟨c2, c20, c21, e⟩ := ex c c0 c1
    rw [e i i0 i1]
    exact MI_t h c20 c21 i0 i1
  · obtain ⟨c2, c20, c21, e⟩ := ex c c0 c1
    rw [e _ (by omega) (by omega), show 1690 * c + (875 + 272 * a + 9 * b) + 1 = 1690 * c + (875 + 272 * a + 9 * b + 1) by omega, show 1690 * c + (875 + 272 * a + 9 * b) + 3 = 1690 * c + (875 + 272 * a + 9 * b + 3) by omega, e _ (by omega) (by omega), e _ (by omega) (by omega)]
    have q := h.2.2.2.2.1 c2 a b c20 c21 a0 b0
    rw [show 1690 * c2 + (875 + 272 * a + 9 * b) + 1 = 1690 * c2 + (875 + 272 * a + 9 * b + 1) by omega, show 1690 * c2 + (875 + 272 * a + 9 * b) + 3 = 1690 * c2 + (875 + 272 * a + 9 * b + 3) by omega] at q
    exact q
  · obtain ⟨c2, c20, c21, e⟩ := ex c c0 c1
    rw [e _ (by omega) (by omega)] at hw
    have t3 := (MI_t h (c := c2) (i := 611 + 132 * a) c20 c21 (by omega) (by omega)).2.2.2.2.1 (by omega)
    rw [e _ (by omega) (by omega), e _ (by omega) (by omega), e _ (by omega) (by omega)]
    exact MI_w h c20 c21 a0 a1 w0 hw
theorem ms_b {f : Nat → Int32} {A : Nat → List Int32} (h : MI f A) : -4 ≤ msr f ∧ msr f ≤ 8000 := by
  have h3 := mf_3 h
  have h5 := mf_5 h
  have h8 := mf_8 h
  unfold msr
  omega
