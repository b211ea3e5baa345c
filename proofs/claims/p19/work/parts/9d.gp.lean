/-! ===== one more along the cheapest way ===== -/
theorem prc_spec (w f w2 : Int) : (0 < w ∧ (f = 0 ∨ 0 ≤ w2) ∧ prc w f w2 = 0) ∨ (0 < w ∧ f ≠ 0 ∧ w2 < 0 ∧ prc w f w2 = -1) ∨ (w ≤ 0 ∧ f = 0 ∧ prc w f w2 = 1) ∨ (w ≤ 0 ∧ f ≠ 0 ∧ w2 < 0 ∧ prc w f w2 = -1) ∨ (w ≤ 0 ∧ f ≠ 0 ∧ 0 ≤ w2 ∧ prc w f w2 = 0) := by
  unfold prc
  repeat' split
  all_goals omega
theorem prc_back {w f w2 f2 : Int} (hf : 1 ≤ f) (hc : w2 < 0 ∨ (0 ≤ w2 ∧ w ≤ 0)) (hs : 0 ≤ prc w f w2 + prc w2 f2 w) : prc w f w2 ≤ prc w (f - 1) (w2 + 1) ∧ 0 ≤ prc (w2 + 1) f2 w + prc w f w2 := by
  have h1 := prc_spec w f w2
  have h2 := prc_spec w2 f2 w
  have h3 := prc_spec w (f - 1) (w2 + 1)
  have h4 := prc_spec (w2 + 1) f2 w
  generalize prc w f w2 = a at *
  generalize prc w2 f2 w = b at *
  generalize prc w (f - 1) (w2 + 1) = c at *
  generalize prc (w2 + 1) f2 w = e at *
  rcases h1 with h1 | h1 | h1 | h1 | h1 <;> rcases h2 with h2 | h2 | h2 | h2 | h2 <;> rcases h3 with h3 | h3 | h3 | h3 | h3 <;> first | omega | (rcases h4 with h4 | h4 | h4 | h4 | h4 <;> omega)
theorem prc_fwd {w f w2 f2 : Int} (hf : 0 ≤ f) (hf2 : 0 ≤ f2) (hc : f = 0 ∨ (0 ≤ w2 ∧ 0 < w) ) : prc w f w2 ≤ prc (w - 1) f w2 ∧ 0 ≤ prc w2 (f2 + 1) (w - 1) + prc w f w2 := by
  have h1 := prc_spec w f w2
  have h3 := prc_spec (w - 1) f w2
  have h4 := prc_spec w2 (f2 + 1) (w - 1)
  generalize prc w f w2 = a at *
  generalize prc (w - 1) f w2 = c at *
  generalize prc w2 (f2 + 1) (w - 1) = e at *
  rcases h1 with h1 | h1 | h1 | h1 | h1 <;> rcases h3 with h3 | h3 | h3 | h3 | h3 <;> first | omega | (rcases h4 with h4 | h4 | h4 | h4 | h4 <;> omega)
section GP
variable {A A' A0 : Nat → List Int32}
theorem pv_same {i c d : Int} {v : Int32} (e : A' = upa A 162 ((A 162).set i.toNat v)) (i0 : 0 ≤ i) (c0 : 0 ≤ c) (d0 : 0 ≤ d) (h1 : i ≠ 10 * c + d) (h2 : i ≠ 10 * d + c) : pv A' c d = pv A c d := by
  unfold pv wv
  rw [upa_at e, upa_fr e (by decide : (160 : Nat) ≠ 162), upa_fr e (by decide : (161 : Nat) ≠ 162), fr_ne i0 (by omega) h1, fr_ne i0 (by omega) h2]
/-- less on (b, a): (a, b) and (b, a) -/
theorem pv_back {a b : Int} {v : Int32} (e : A' = upa A 162 ((A 162).set (10 * b + a).toNat v)) (hl : (A 162).length = 100) (a0 : 0 ≤ a) (a1 : a < 10) (b0 : 0 ≤ b) (b1 : b < 10) (hne : a ≠ b) {m : Int} (hv : v.toInt = fr (A 162) (10 * b + a) - m) : pv A' a b = prc (wv A a b) (fr (A 162) (10 * b + a) - m) (wv A b a + m) ∧ pv A' b a = prc (wv A b a + m) (fr (A 162) (10 * a + b)) (wv A a b) := by
  have q2 := upa_at e
  have q0 : A' 160 = A 160 := upa_fr e (by decide)
  have q1 : A' 161 = A 161 := upa_fr e (by decide)
  have f1 : fr (A' 162) (10 * b + a) = fr (A 162) (10 * b + a) - m := by rw [q2, fr_eq (by omega) (by omega), hv]
  have f2 : fr (A' 162) (10 * a + b) = fr (A 162) (10 * a + b) := by rw [q2, fr_ne (by omega) (by omega) (by omega)]
  have w1 : wv A' a b = wv A a b := by
    unfold wv
    rw [q0, q1, f2]
  have w2 : wv A' b a = wv A b a + m := by
    unfold wv
    rw [q0, q1, f1]
    omega
  unfold pv
  rw [f1, f2, w1, w2]
  exact ⟨rfl, rfl⟩
/-- the way so far: rk, prices as potentials, what is not yet done is tight -/
def PW (A A0 : Nat → List Int32) (rk : Int → Nat) (p x : Int) : Prop := (∀ a b : Int, 0 ≤ a → a < p → 0 ≤ b → b < p → a ≠ b → 0 ≤ pv A a b + fr (A0 165) a - fr (A0 165) b) ∧ (∀ b : Int, 0 ≤ b → b < p → fr (A0 163) b ≤ 0 → rk b ≤ rk x → pv A (fr (A0 164) b) b + fr (A0 165) (fr (A0 164) b) - fr (A0 165) b = 0) ∧ (∀ a b : Int, 0 ≤ a → a < 10 → 0 ≤ b → b < 10 → 0 ≤ fr (A 162) (10 * a + b) ∧ fr (A 162) (10 * a + b) ≤ fr (A0 162) (10 * a + b) + 1 ∧ (rk b ≤ rk x → fr (A 162) (10 * a + b) ≤ fr (A0 162) (10 * a + b)))
theorem PW_zero {rk : Int → Nat} {p x B : Int} (h : GW A rk p) (g : BN A B) : PW A A rk p x := by
  refine ⟨h.1, fun b b0 b1 hb _ => ((h.2 b b0 b1).2.2 hb).2.2.2.2, fun a b a0 a1 b0 b1 => ?_⟩
  have q := g (10 * a + b) (by omega) (by omega)
  omega
theorem PW_not {rk : Int → Nat} {p x : Int} (h : GW A0 rk p) (x0 : 0 ≤ x) (x1 : x < p) (hn : fr (A0 164) x ≠ x) : fr (A0 163) x ≤ 0 ∧ 0 ≤ fr (A0 164) x ∧ fr (A0 164) x < p ∧ rk (fr (A0 164) x) < rk x := by
  have q := h.2 x x0 x1
  by_cases e : 0 < fr (A0 163) x
  · exact absurd (q.2.1 e).2 hn
  · have q2 := q.2.2 (by omega)
    exact ⟨by omega, q2.1, q2.2.1, q2.2.2.2.1⟩
theorem PW_step {rk : Int → Nat} {p x a i : Int} {v : Int32} (h : PW A A0 rk p x) (g : GW A0 rk p) (p9 : p ≤ 9) (hl : (A 162).length = 100) (x0 : 0 ≤ x) (x1 : x < p) (hn : fr (A0 164) x ≠ x) (ha : fr (A0 164) x = a) (e : A' = upa A 162 ((A 162).set i.toNat v)) (hi : (i = 10 * x + a ∧ v.toInt = fr (A 162) i - 1 ∧ 1 ≤ fr (A 162) i ∧ (wv A x a < 0 ∨ (0 ≤ wv A x a ∧ wv A a x ≤ 0))) ∨ (i = 10 * a + x ∧ v.toInt = fr (A 162) i + 1 ∧ (fr (A 162) (10 * x + a) = 0 ∨ (0 ≤ wv A x a ∧ 0 < wv A a x)))) : PW A' A0 rk p a := by
  obtain ⟨h1, h2, h3⟩ := h
  obtain ⟨n1, n2, n3, n4⟩ := PW_not g x0 x1 hn
  rw [ha] at n2 n3 n4 hn
  have tx := h2 x x0 x1 n1 (Nat.le_refl _)
  rw [ha] at tx
  have rx := h1 x a x0 x1 n2 n3 (Ne.symm hn)
  have i0 : 0 ≤ i := by omega
  have fa := h3 a x n2 (by omega) x0 (by omega)
  have fx := h3 x a x0 (by omega) n2 (by omega)
  -- both prices of the pair
  have key : pv A a x ≤ pv A' a x ∧ 0 ≤ pv A' x a + pv A a x := by
    rcases hi with ⟨e1, e2, e3, e4⟩ | ⟨e1, e2, e3⟩
    · subst e1
      have q := pv_back (m := 1) e hl n2 (by omega) x0 (by omega) hn e2
      rw [q.1, q.2]
      exact prc_back (f2 := fr (A 162) (10 * a + x)) e3 (by omega) (by have t : 0 ≤ pv A a x + pv A x a := by omega
                                                                       exact t)
    · subst e1
      have q := pv_back (m := -1) e hl x0 (by omega) n2 (by omega) (Ne.symm hn) (by omega)
      rw [q.1, q.2]
      have t := prc_fwd (w := wv A a x) (f := fr (A 162) (10 * x + a)) (w2 := wv A x a) (f2 := fr (A 162) (10 * a + x)) fx.1 fa.1 (by omega)
      rw [show wv A a x + -1 = wv A a x - 1 by omega, show fr (A 162) (10 * a + x) - -1 = fr (A 162) (10 * a + x) + 1 by omega]
      exact t
  have other : ∀ c d : Int, 0 ≤ c → c < p → 0 ≤ d → d < p → ¬ (c = a ∧ d = x) → ¬ (c = x ∧ d = a) → pv A' c d = pv A c d := by
    intro c d c0 c1 d0 d1 hA hB
    refine pv_same e i0 c0 d0 ?_ ?_
    · rcases hi with hi | hi <;> omega
    · rcases hi with hi | hi <;> omega
  refine ⟨fun c d c0 c1 d0 d1 ne => ?_, fun b b0 b1 hb hk => ?_, fun c d c0 c1 d0 d1 => ?_⟩
  · by_cases eA : c = a ∧ d = x
    · rw [eA.1, eA.2]
      omega
    · by_cases eB : c = x ∧ d = a
      · rw [eB.1, eB.2]
        omega
      · rw [other c d c0 c1 d0 d1 eA eB]
        exact h1 c d c0 c1 d0 d1 ne
  · have q := (g.2 b b0 b1).2.2 hb
    have bx : b ≠ x := by
      intro eb
      rw [eb] at hk
      omega
    rw [other (fr (A0 164) b) b q.1 q.2.1 b0 b1 (fun z => bx z.2) (fun z => by have z1 := z.1; have r := q.2.2.2.1; rw [z1] at r; omega)]
    exact h2 b b0 b1 hb (by omega)
  · have q := h3 c d c0 c1 d0 d1
    rw [upa_at e]
    by_cases ei : i = 10 * c + d
    · rw [← ei, fr_eq i0 (by omega)]
      rw [← ei] at q
      rcases hi with ⟨e1, e2, e3, e4⟩ | ⟨e1, e2, e3⟩
      · have ed : d = a := by omega
        have hk2 := q.2.2 (by rw [ed]; omega)
        omega
      · have ed : d = x := by omega
        have hk2 := q.2.2 (by rw [ed]; omega)
        refine ⟨by omega, by omega, fun hk => ?_⟩
        rw [ed] at hk
        omega
    · rw [fr_ne i0 (by omega) ei]
      exact ⟨q.1, q.2.1, fun hk => q.2.2 (by omega)⟩
end GP
theorem ps_pos {xs : List Int32} (h : 0 < ps xs) : ∃ i : Nat, i < xs.length ∧ 0 < (xs.getD i 0).toInt := by
  induction xs with
  | nil => exact absurd h (Nat.lt_irrefl 0)
  | cons x xs ih =>
    by_cases e : 0 < x.toInt
    · exact ⟨0, by rw [List.length_cons]; omega, e⟩
    · have h2 : 0 < ps xs := by
        unfold ps at h
        omega
      obtain ⟨i, i1, i2⟩ := ih h2
      exact ⟨i + 1, by rw [List.length_cons]; omega, i2⟩
theorem sm_ps {xs : List Int32} (h : ∀ j : Nat, j < xs.length → 0 ≤ (xs.getD j 0).toInt) : sm xs = (ps xs : Int) := by
  induction xs with
  | nil => rfl
  | cons x xs ih =>
    have h0 : 0 ≤ x.toInt := h 0 (by rw [List.length_cons]; omega)
    have h1 := ih (fun j hj => h (j + 1) (by rw [List.length_cons]; omega))
    unfold sm ps
    omega
theorem ps_bound {B : Int} : ∀ xs : List Int32, (∀ j : Nat, j < xs.length → (xs.getD j 0).toInt ≤ B) → 0 ≤ B → (ps xs : Int) ≤ B * xs.length := by
  intro xs
  induction xs with
  | nil => intro _ _; show (0 : Int) ≤ _; rw [show ((([] : List Int32).length : Nat) : Int) = 0 from rfl]; omega
  | cons x xs ih =>
    intro h hB
    have h0 : x.toInt ≤ B := h 0 (by rw [List.length_cons]; omega)
    have h1 := ih (fun j hj => h (j + 1) (by rw [List.length_cons]; omega)) hB
    rw [List.length_cons, show (((xs.length + 1 : Nat)) : Int) = (xs.length : Int) + 1 by omega, Int.mul_add]
    unfold ps
    omega
theorem ps_take {xs : List Int32} {n : Nat} (h : n < xs.length) : ps (xs.take (n + 1)) = ps (xs.take n) + (xs.getD n 0).toInt.toNat := by
  induction xs generalizing n with
  | nil => exact absurd h (Nat.not_lt_zero n)
  | cons x xs ih =>
    cases n with
    | zero =>
      show x.toInt.toNat + ps (xs.take 0) = 0 + x.toInt.toNat
      rw [List.take_zero]
      show x.toInt.toNat + 0 = 0 + x.toInt.toNat
      omega
    | succ n =>
      have h1 := ih (n := n) (by rw [List.length_cons] at h; omega)
      show x.toInt.toNat + ps (xs.take (n + 1)) = x.toInt.toNat + ps (xs.take n) + (xs.getD n 0).toInt.toNat
      omega
theorem ps_zero {xs : List Int32} (h : ∀ j : Nat, j < xs.length → (xs.getD j 0).toInt ≤ 0) : ps xs = 0 := by
  induction xs with
  | nil => rfl
  | cons x xs ih =>
    have h0 : x.toInt ≤ 0 := h 0 (by rw [List.length_cons]; omega)
    have h1 := ih (fun j hj => h (j + 1) (by rw [List.length_cons]; omega))
    unfold ps
    omega
theorem ps_takeAll {xs : List Int32} {n : Nat} (h : ∀ j : Nat, n ≤ j → j < xs.length → (xs.getD j 0).toInt ≤ 0) : ps (xs.take n) = ps xs := by
  induction xs generalizing n with
  | nil => rw [List.take_nil]
  | cons x xs ih =>
    cases n with
    | zero =>
      rw [List.take_zero, ps_zero (fun j hj => h j (by omega) hj)]
      rfl
    | succ n =>
      have h1 := ih (n := n) (fun j j0 j1 => h (j + 1) (by omega) (by rw [List.length_cons]; omega))
      show x.toInt.toNat + ps (xs.take n) = x.toInt.toNat + ps xs
      omega
def GJ (A : Nat → List Int32) (p : Int) : Prop := GI A p (20000 - (ps (A 163) : Int))
/-- who is to be paid -/
def TO (A : Nat → List Int32) (p x n : Int) : Prop := (0 ≤ x → x < p ∧ fr (A 163) x < 0) ∧ (x < 0 → ∀ q : Int, 0 ≤ q → q < n → 0 ≤ fr (A 163) q)
theorem TO_end {A : Nat → List Int32} {p x n K : Int} (h : TO A p x n) (g : GI A p K) (hp : 0 < ps (A 163)) (hn : p ≤ n) (p0 : 0 ≤ p) (hl : (A 163).length = 10) : 0 ≤ x := by
  refine Classical.byContradiction (fun hc => ?_)
  have q := h.2 (by omega)
  have o := g.2.1
  have s := sm_ps (xs := A 163) (fun j hj => by
    by_cases e : (j : Int) < p
    · have r := q (j : Int) (by omega) (by omega)
      unfold fr at r
      rw [show (j : Int).toNat = j by omega] at r
      exact r
    · have r := o.2.1 (j : Int) (by omega) (by omega) (by omega)
      unfold fr at r
      rw [show (j : Int).toNat = j by omega] at r
      omega)
  have s2 := o.2.2
  omega
theorem GJ_src {A : Nat → List Int32} {p K : Int} (g : GI A p K) (hp : 0 < ps (A 163)) (hl : (A 163).length = 10) : ∃ s : Int, 0 ≤ s ∧ s < p ∧ 0 < fr (A 163) s := by
  obtain ⟨i, i1, i2⟩ := ps_pos hp
  have e : fr (A 163) (i : Int) = ((A 163).getD i 0).toInt := by
    unfold fr
    rw [show (i : Int).toNat = i by omega]
  refine ⟨(i : Int), by omega, ?_, by rw [e]; exact i2⟩
  refine Classical.byContradiction (fun hc => ?_)
  have o := g.2.1.2.1 (i : Int) (by omega) (by omega) (by omega)
  omega
/-- who is to be paid has one more: the same ways -/
theorem GW_to {A A' : Nat → List Int32} {rk : Int → Nat} {p t : Int} {v : Int32} (h : GW A rk p) (t0 : 0 ≤ t) (t1 : t < 10) (hl : (A 163).length = 10) (ht : fr (A 163) t < 0) (hv : v.toInt = fr (A 163) t + 1) (e : A' = upa A 163 ((A 163).set t.toNat v)) : GW A' rk p := by
  have qo : ∀ n : Nat, n ≠ 163 → A' n = A n := fun n hn => upa_fr e hn
  have qp : ∀ a b : Int, pv A' a b = pv A a b := pv_eq (qo 160 (by decide)) (qo 161 (by decide)) (qo 162 (by decide))
  refine ⟨fun a b a0 a1 b0 b1 ne => ?_, fun b b0 b1 => ?_⟩
  · rw [qp, qo 165 (by decide)]
    exact h.1 a b a0 a1 b0 b1 ne
  · have q := h.2 b b0 b1
    have s : (0 < fr (A' 163) b → 0 < fr (A 163) b) ∧ (fr (A' 163) b ≤ 0 → fr (A 163) b ≤ 0) := by
      rw [upa_at e]
      by_cases eb : t = b
      · rw [← eb, fr_eq t0 (by omega), hv]
        omega
      · rw [fr_ne t0 b0 eb]
        exact ⟨fun z => z, fun z => z⟩
    rw [qp, qo 165 (by decide), qo 164 (by decide)]
    exact ⟨q.1, fun z => q.2.1 (s.1 z), fun z => q.2.2 (s.2 z)⟩
/-- behind the way: what holds before the next -/
theorem GJ_end {A A1 A2 A3 : Nat → List Int32} {rk : Int → Nat} {p t r : Int} {v w : Int32} (g : GJ A p) (h : GW A1 rk p) (hw : PW A2 A1 rk p r) (p0 : 0 ≤ p) (p9 : p ≤ 9) (l3 : (A 163).length = 10) (t0 : 0 ≤ t) (t1 : t < p) (ht : fr (A 163) t < 0) (hv : v.toInt = fr (A 163) t + 1) (q3 : A1 163 = (A 163).set t.toNat v) (q0 : A1 160 = A 160) (q1 : A1 161 = A 161) (q2 : A1 162 = A 162) (k0 : A2 160 = A1 160) (k1 : A2 161 = A1 161) (k3 : A2 163 = A1 163) (k5 : A2 165 = A1 165) (r0 : 0 ≤ r) (r1 : r < p) (hr : fr (A1 164) r = r) (hz : w.toInt = fr (A2 163) r - 1) (e : A3 = upa A2 163 ((A2 163).set r.toNat w)) : GJ A3 p ∧ ps (A3 163) + 1 = ps (A 163) := by
  obtain ⟨g1, ⟨o1, o2, o3⟩, g3⟩ := g
  have rs : 0 < fr (A1 163) r := by
    refine Classical.byContradiction (fun hc => ?_)
    exact ((h.2 r r0 r1).2.2 (by omega)).2.2.1 hr
  have tr_ : t ≠ r := by
    intro z
    rw [← z, q3, fr_eq t0 (by omega)] at rs
    omega
  have or_ : fr (A1 163) r = fr (A 163) r := by rw [q3, fr_ne t0 r0 tr_]
  have s3 : A3 163 = ((A 163).set t.toNat v).set r.toNat w := by rw [upa_at e, k3, q3]
  have so : ∀ n : Nat, n ≠ 163 → A3 n = A2 n := fun n hn => upa_fr e hn
  rw [k3, or_] at hz
  rw [or_] at rs
  have p1 := ps_set (xs := A 163) (i := t.toNat) (v := v) (by omega)
  have p2 := ps_set (xs := (A 163).set t.toNat v) (i := r.toNat) (v := w) (by rw [List.length_set]; omega)
  have m1 := sm_set (xs := A 163) (i := t.toNat) (v := v) (by omega)
  have m2 := sm_set (xs := (A 163).set t.toNat v) (i := r.toNat) (v := w) (by rw [List.length_set]; omega)
  rw [gz_ne (by omega)] at p2 m2
  have ht2 : ((A 163).getD t.toNat 0).toInt = fr (A 163) t := rfl
  have hr2 : ((A 163).getD r.toNat 0).toInt = fr (A 163) r := rfl
  rw [ht2] at p1 m1
  rw [hr2] at p2 m2
  have hps : ps (A3 163) + 1 = ps (A 163) := by
    rw [s3]
    omega
  have oat : ∀ b : Int, 0 ≤ b → (b = t → fr (A3 163) b = fr (A 163) t + 1) ∧ (b = r → fr (A3 163) b = fr (A 163) r - 1) ∧ (b ≠ t → b ≠ r → fr (A3 163) b = fr (A 163) b) := by
    intro b b0
    rw [s3]
    refine ⟨fun z => ?_, fun z => ?_, fun z1 z2 => ?_⟩
    · rw [z, fr_ne r0 t0 (Ne.symm tr_), fr_eq t0 (by omega), hv]
    · rw [z, fr_eq r0 (by rw [List.length_set]; omega), hz]
    · rw [fr_ne r0 b0 (Ne.symm z2), fr_ne t0 b0 (Ne.symm z1)]
  refine ⟨⟨fun j j0 j1 => ?_, ⟨fun b b0 b1 => ?_, fun b bp b0 b1 => ?_, ?_⟩, ?_⟩, hps⟩
  · have b1 := g1 j j0 j1
    have b2 := hw.2.2 (j / 10) (j % 10) (by omega) (by omega) (by omega) (by omega)
    rw [show 10 * (j / 10) + j % 10 = j by omega, q2] at b2
    rw [so 160 (by decide), so 161 (by decide), so 162 (by decide), k0, k1, q0, q1]
    omega
  · have z := oat b b0
    have b3 := o1 b b0 b1
    by_cases e1 : b = t
    · have z1 := z.1 e1
      have b4 := o1 t t0 (by omega)
      omega
    · by_cases e2 : b = r
      · have z2 := z.2.1 e2
        have b4 := o1 r r0 (by omega)
        omega
      · rw [z.2.2 e1 e2]
        exact b3
  · rw [(oat b b0).2.2 (by omega) (by omega)]
    exact o2 b bp b0 b1
  · rw [s3]
    omega
  · refine ⟨fun b => fr (A1 165) b, fun a b a0 a1 b0 b1 ne => ?_, fun b b0 b1 => (h.2 b b0 b1).1, fun b b0 b1 hb => ?_⟩
    · rw [pv_eq (so 160 (by decide)) (so 161 (by decide)) (so 162 (by decide))]
      exact hw.1 a b a0 a1 b0 b1 ne
    · refine ((h.2 b b0 b1).2.1 ?_).1
      have z := oat b b0
      by_cases e1 : b = t
      · have z1 := z.1 e1
        omega
      · by_cases e2 : b = r
        · rw [e2, or_]
          exact rs
        · rw [q3, fr_ne t0 b0 (Ne.symm e1), ← z.2.2 e1 e2]
          exact hb
/-- at the start no flow is: prices are not below 0 -/
theorem GJ_zero {A : Nat → List Int32} {v p : Int} (p9 : p ≤ 9) (h : AK A v 7) (hp : fr (A 148) v = p) {B : Nat → List Int32} (l3 : (A 163).length = 10) (e0 : B 160 = A 160) (e2 : B 162 = A 162) (e3 : B 163 = A 163) (hw : ∀ j : Int, 0 ≤ j → j < 100 → 0 ≤ fr (B 161) j ∧ fr (B 161) j ≤ 99) : GJ B p := by
  obtain ⟨h1, h2, h3⟩ := h
  rw [hp] at h1
  have hb := ps_bound (B := 1386) (A 163) (fun j hj => by
    have q := h1.1 (j : Int) (by omega) (by omega)
    unfold fr at q
    rw [show (j : Int).toNat = j by omega] at q
    omega) (by decide)
  rw [l3] at hb
  refine ⟨fun j j0 j1 => ?_, ?_, fun _ => 0, fun a b a0 a1 b0 b1 ne => ?_, fun b _ _ => (by decide : (-1000 : Int) ≤ 0), fun b _ _ _ => rfl⟩
  · have q1 := hw j j0 j1
    have q2 := h2 j j0 j1
    have q3 := h3 j j0 j1
    rw [e0, e2, e3]
    omega
  · rw [e3]
    exact h1
  · have f0 : fr (B 162) (10 * b + a) = 0 := by
      rw [e2]
      exact (h3 (10 * b + a) (by omega) (by omega)).2
    unfold pv
    rw [f0]
    have s := prc_spec (wv B a b) 0 (wv B b a)
    show 0 ≤ _ + 0 - 0
    omega
