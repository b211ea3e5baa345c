/-! ===== texts: what is kept, what is told anew ===== -/
def plc (s k : Int) : Int := if s = 0 then 610 + 132 * k else 874 + 272 * k
def TP (A A' : Nat → List Int32) : Prop := fr (A' 148) 2 = 0 ∧ ∀ j : Int, 1690 ≤ j → fr (A' 148) j = fr (A 148) j
section TPS
variable {A A1 A2 : Nat → List Int32}
theorem TP_init {v : Int32} (e : A1 = upa A 148 ((A 148).set (2 : Int).toNat v)) (hl : (A 148).length = 6760) (hv : v.toInt = 0) : TP A A1 := by
  refine ⟨?_, fun j hj => ?_⟩
  · rw [upa_at e, fr_eq (by decide) (by omega)]
    exact hv
  · rw [upa_at e, fr_ne (by decide) (by omega) (by omega)]
theorem TP_set {i : Int} {v : Int32} (h : TP A A1) (e : A2 = upa A1 148 ((A1 148).set i.toNat v)) (i0 : 0 ≤ i) (i2 : i ≠ 2) (i1 : i < 1690) : TP A A2 := by
  refine ⟨?_, fun j hj => ?_⟩
  · rw [upa_at e, fr_ne i0 (by decide) i2]
    exact h.1
  · rw [upa_at e, fr_ne i0 (by omega) (by omega)]
    exact h.2 j hj
theorem TP_tx {f f' : Nat → Int32} (h : TP A A1) (t : TX f f' A1 A2) : TP A A2 := ⟨(t.2.1 2 (by decide) (by decide) (by decide)).trans h.1, fun j hj => (t.2.1 j (by omega) (by omega) (by omega)).trans (h.2 j hj)⟩
theorem TP_cp {y : List Int32} {d s n : Int} (h : TP A A1) (c : CP (A2 148) (A1 148) y d s n) (d0 : 2 < d) (d1 : d + n ≤ 1690) : TP A A2 := ⟨(c.2 2 (by decide) (Or.inl d0)).trans h.1, fun j hj => (c.2 j (by omega) (by omega)).trans (h.2 j hj)⟩
theorem TP_fr (h : TP A A1) (e : A2 148 = A1 148) : TP A A2 := by
  unfold TP
  rw [e]
  exact h
end TPS
section MJS
variable {f : Nat → Int32} {A : Nat → List Int32}
theorem mjlen_148 (h : MJ f A) : (A 148).length = 6760 := h.2.1 148 (by omega) (by omega)
theorem mjlen_150 (h : MJ f A) : (A 150).length = 272 := h.2.1 150 (by omega) (by omega)
theorem mj_st {i : Nat} {v : Int32} (h : MJ f A) : MJ f (upa A 148 ((A 148).set i v)) := by
  obtain ⟨h1, h2, h3⟩ := h
  refine ⟨h1, fun k k0 k1 => ?_, fun k j => ?_⟩
  · by_cases e : k = 148
    · subst e
      rw [upa_eq, List.length_set]
      exact h2 148 k0 k1
    · rw [upa_ne e]
      exact h2 k k0 k1
  · by_cases e : k = 148
    · subst e
      exact trivial
    · rw [upa_ne e]
      exact h3 k j
end MJS
section MJR
variable {X : pm_X} {d mi pc : Nat} {ls st : List Value} {wc : pm_W} {f : Nat → Int32} {A : Nat → List Int32} {Q : pm_R → Prop} {x : Int32} {a : Int}
theorem mj_st148 {v : Int32} (hd : pm_dec pg mi pc = some .iastore) (hc : wc.length = 147) (hI : MJ f A) (hx : x.toInt = a) (h0 : 0 ≤ a) (h1 : a < 6760) (kk : ∀ A' : Nat → List Int32, A' = upa A 148 ((A 148).set a.toNat v) → MJ f A' → pmE pg X pg_tyl pg_cl d mi (pc + 1) ls st (md wc f A') Q) : pmE pg X pg_tyl pg_cl d mi pc ls (.int v :: .int x :: .ref 148 :: st) (md wc f A) Q :=
  pz_iast hd (md_a148 hc) (hI.2.1 148 (by omega) (by omega)) hx h0 (by show a < ((6760 : Nat) : Int); omega) (md_s148 hc) (kk _ rfl (mj_st hI))
end MJR
def RD (s : Int) (f : Nat → Int32) (A : Nat → List Int32) : Prop := (s = 0 → TV (A 150) (f 9).toInt (fr (A 148) 3) ∧ fr (A 150) 1 ≤ msr f + 4) ∧ (s ≠ 0 → TR (A 150) (fr (A 148) 3) ∧ fr (A 150) 0 ≤ msr f + 4)
