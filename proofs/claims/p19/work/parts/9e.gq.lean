/-! ===== more for the prices ===== -/
theorem GI_fr {A B : Nat → List Int32} {p K : Int} (h : GI A p K) (e0 : B 160 = A 160) (e1 : B 161 = A 161) (e2 : B 162 = A 162) (e3 : B 163 = A 163) : GI B p K := by
  obtain ⟨h1, h2, π, h3, h4, h5⟩ := h
  refine ⟨fun j j0 j1 => ?_, by rw [e3]; exact h2, π, fun a b a0 a1 b0 b1 ne => ?_, h4, fun b b0 b1 hb => ?_⟩
  · rw [e0, e1, e2]
    exact h1 j j0 j1
  · rw [pv_eq e0 e1 e2]
    exact h3 a b a0 a1 b0 b1 ne
  · rw [e3] at hb
    exact h5 b b0 b1 hb
theorem BF_bnd {A : Nat → List Int32} {p k i j : Int} (h : BF A p k i j) (k1 : 1 ≤ k) (k2 : k ≤ 10) (i0 : 0 ≤ i) (i9 : i ≤ 9) (j0 : 0 ≤ j) (j9 : j ≤ 9) : ∀ b : Int, 0 ≤ b → b < p → -1000 ≤ fr (A 165) b ∧ fr (A 165) b ≤ 1000000 := by
  obtain ⟨π, t, la, h1, h2, h3, h4⟩ := h
  intro b b0 b1
  by_cases e : fr (A 165) b = 1000000
  · omega
  · have g := NF_pi (h2 b b0 b1) (by omega) e
    have g2 := (h2 b b0 b1).1
    omega
theorem TO_keep {A : Nat → List Int32} {p x n : Int} (h : TO A p x n) (hq : x < 0 → 0 ≤ fr (A 163) n) : TO A p x (n + 1) := by
  refine ⟨h.1, fun hx q q0 q1 => ?_⟩
  by_cases e : q = n
  · rw [e]
    exact hq hx
  · exact h.2 hx q q0 (by omega)
theorem TO_new {A : Nat → List Int32} {p x n : Int} (h0 : 0 ≤ x) (h1 : x < p) (h2 : fr (A 163) x < 0) : TO A p x n := ⟨fun _ => ⟨h1, h2⟩, fun hx => absurd hx (by omega)⟩
theorem PW_b {A A0 : Nat → List Int32} {rk : Int → Nat} {p x B : Int} (h : PW A A0 rk p x) (g : BN A0 B) (hB : B ≤ 20001) : ∀ j : Int, 0 ≤ j → j < 100 → 0 ≤ fr (A 162) j ∧ fr (A 162) j ≤ 20002 := by
  intro j j0 j1
  have q := h.2.2 (j / 10) (j % 10) (by omega) (by omega) (by omega) (by omega)
  rw [show 10 * (j / 10) + j % 10 = j by omega] at q
  have r := g j j0 j1
  omega
theorem BN_w {A : Nat → List Int32} {B : Int} (h : BN A B) : ∀ j : Int, 0 ≤ j → j < 100 → 0 ≤ fr (A 161) j ∧ fr (A 161) j ≤ 99 := fun j j0 j1 => (h j j0 j1).1
theorem BN_l {A : Nat → List Int32} {B : Int} (h : BN A B) : ∀ j : Int, 0 ≤ j → j < 100 → 0 ≤ fr (A 160) j ∧ fr (A 160) j ≤ 700 := fun j j0 j1 => (h j j0 j1).2.1
theorem BN_f {A : Nat → List Int32} {B : Int} (h : BN A B) : ∀ j : Int, 0 ≤ j → j < 100 → 0 ≤ fr (A 162) j ∧ fr (A 162) j ≤ B := fun j j0 j1 => (h j j0 j1).2.2
theorem BN_up {A : Nat → List Int32} {B C : Int} (h : BN A B) (hc : B ≤ C) : BN A C := fun j j0 j1 => by
  have q := h j j0 j1
  omega
theorem GW_root {A : Nat → List Int32} {rk : Int → Nat} {p r : Int} (h : GW A rk p) (r0 : 0 ≤ r) (r1 : r < p) (hr : fr (A 164) r = r) : 0 < fr (A 163) r := by
  refine Classical.byContradiction (fun hc => ?_)
  exact ((h.2 r r0 r1).2.2 (by omega)).2.2.1 hr
theorem AK_w {A : Nat → List Int32} {v w : Int} (h : AK A v w) : ∀ j : Int, (0) ≤ j → j < (100) → 0 ≤ ((A 161).getD j.toNat 0).toInt ∧ ((A 161).getD j.toNat 0).toInt ≤ 99 := by
  intro j j0 j1
  have q := (h.2.2 j j0 j1).1
  unfold fr at q
  omega
theorem ps_all {c : List Int32} {n p : Int} (h : OB c 1386 p) (hl : c.length = 10) (hn : p ≤ n) (n0 : 0 ≤ n) : ps (c.take n.toNat) = ps c := by
  refine ps_takeAll (fun j j0 j1 => ?_)
  have q := h.2.1 (j : Int) (by omega) (by omega) (by omega)
  unfold fr at q
  rw [show (j : Int).toNat = j by omega] at q
  omega
theorem ps_one {c : List Int32} {n : Int} {x v : Int} (h : x = (ps (c.take n.toNat) : Int)) (n0 : 0 ≤ n) (hl : n < c.length) (hv : v = (if 0 < fr c n then fr c n else 0)) : x + v = (ps (c.take (n + 1).toNat) : Int) := by
  rw [show (n + 1).toNat = n.toNat + 1 by omega, ps_take (by omega)]
  have e : (c.getD n.toNat 0).toInt = fr c n := rfl
  rw [e, hv]
  split <;> omega
theorem BN_fr {A B : Nat → List Int32} {K : Int} (h : BN A K) (e0 : B 160 = A 160) (e1 : B 161 = A 161) (e2 : B 162 = A 162) : BN B K := fun j j0 j1 => by
  rw [e0, e1, e2]
  exact h j j0 j1
theorem mwd {f : Nat → Int32} {A : Nat → List Int32} {v i : Int} {x : Int32} (hI : MI f A) (e : x = (A 148).getD i.toNat 0) (hv : 610 ≤ v ∧ v ≤ 742 ∧ (v - 610) % 132 = 0) (h1 : v + 3 ≤ i) (h2 : i < v + 84) : 0 ≤ x.toInt ∧ x.toInt ≤ 99 := by
  have hk : v = 610 ∨ v = 742 := by omega
  rcases hk with rfl | rfl
  · exact MT_word (mt_148 hI e (by omega)) (by omega)
  · exact MT_word (mt_148 hI e (by omega)) (by omega)
