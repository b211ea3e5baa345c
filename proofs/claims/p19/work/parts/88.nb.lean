/-! ===== the numbers of a sentence, as they were judged ===== -/
def lo2 (v i : Int) : Int := (([0, 0, 1, 0, 0, 0, 1, 0, 1, 0, 0, 0, 0, 0, 0, 0, 0, 0, 0, 0, 0, 0, 0, 0, 2, 0, 0, 0, 0, 0, 0, 0, 0, 0, 0, 0, 0, 0, 0, 0, 0, 0, 0, 0, 0, 0, 0, 0, 0, 0, 1, 0] : List Int32).getD (v * 4 + i).toNat 0).toInt
def hi2 (v i : Int) : Int := (([8, 8, 99, 0, 8, 8, 99, 0, 99, 99, 8, 8, 29, 0, 0, 0, 8, 0, 0, 0, 0, 0, 0, 0, 9, 0, 0, 0, 8, 8, 99, 0, 99, 0, 0, 0, 8, 99, 0, 0, 8, 100, 0, 0, 9, 0, 0, 0, 8, 8, 99, 99] : List Int32).getD (v * 4 + i).toNat 0).toInt
def NB (ft vb many : Int) (ns : List Int32) : Prop := ft = 0 → ∀ i : Int, 0 ≤ i → i < many → i < 2 → lo2 vb i ≤ (ns.getD i.toNat 0).toInt ∧ (ns.getD i.toNat 0).toInt ≤ hi2 vb i
theorem NB_step {ft ft' vb m : Int} {ns : List Int32} {val : Int32} (h : NB ft vb m ns) (hj : ft' = 0 → ft = 0 ∧ (m < 2 → lo2 vb m ≤ val.toInt ∧ val.toInt ≤ hi2 vb m)) (h0 : 0 ≤ m) (hl : ns.length = 8) (hm : m < 8) : NB ft' vb (m + 1) (ns.set m.toNat val) := by
  intro e i i0 i1 i2
  obtain ⟨e2, h2⟩ := hj e
  by_cases c : m.toNat = i.toNat
  · have c2 : i = m := by omega
    rw [← c, gz_eq (by omega), c2]
    exact h2 (by omega)
  · rw [gz_ne c]
    exact h e2 i i0 (by omega) i2
theorem NB_keep {ft ft' vb m : Int} {ns : List Int32} {P : Prop} (h : NB ft vb m ns) (hj : ft' = 0 → ft = 0 ∧ P) (hm : 8 ≤ m) : NB ft' vb (m + 1) ns := by
  intro e i i0 i1 i2
  exact h (hj e).1 i i0 (by omega) i2
theorem want_ct {ns : List Int32} {w : Int} (h0 : 0 ≤ w) (a0 : 0 ≤ (ns.getD 0 0).toInt ∧ (ns.getD 0 0).toInt ≤ 8) (a1 : 0 ≤ (ns.getD 1 0).toInt ∧ (ns.getD 1 0).toInt ≤ 8) : ∀ i, i < (4 : Int).toNat → CT 0 ((w * 4 : Int).toNat + i) (ns.getD ((0 : Int).toNat + i) 0).toInt := by
  intro i hi
  have hi : i < 4 := hi
  show (((w * 4 : Int).toNat + i) % 4 < 2 → 0 ≤ (ns.getD ((0 : Int).toNat + i) 0).toInt ∧ (ns.getD ((0 : Int).toNat + i) 0).toInt ≤ 8)
  intro hm
  have hc : i = 0 ∨ i = 1 := by omega
  rcases hc with rfl | rfl
  · exact a0
  · exact a1
