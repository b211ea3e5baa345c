/-! ===== the reference's cells: facts for the second executor ===== -/
section MB
variable {f : Nat → Int32} {A : Nat → List Int32}
theorem mf_2 (hI : MI f A) : 0 ≤ (f 2).toInt ∧ (f 2).toInt ≤ 600 := hI.1 2
theorem mf_3 (hI : MI f A) : 0 ≤ (f 3).toInt ∧ (f 3).toInt ≤ 600 := hI.1 3
theorem mf_5 (hI : MI f A) : 0 ≤ (f 5).toInt ∧ (f 5).toInt ≤ 4 := hI.1 5
theorem mf_8 (hI : MI f A) : 0 ≤ (f 8).toInt ∧ (f 8).toInt ≤ 1 := hI.1 8
theorem mf_14 (hI : MI f A) : 0 ≤ (f 14).toInt ∧ (f 14).toInt ≤ 30 := hI.1 14
theorem mf_23 (hI : MI f A) : 0 ≤ (f 23).toInt ∧ (f 23).toInt ≤ 6 := hI.1 23
theorem mf_24 (hI : MI f A) : 0 ≤ (f 24).toInt ∧ (f 24).toInt ≤ 6 := hI.1 24
theorem mlen_148 (hI : MI f A) : (A 148).length = 6760 := hI.2.1 148 (by omega) (by omega)
theorem mlen_149 (hI : MI f A) : (A 149).length = 3 := hI.2.1 149 (by omega) (by omega)
theorem mlen_150 (hI : MI f A) : (A 150).length = 272 := hI.2.1 150 (by omega) (by omega)
theorem mlen_151 (hI : MI f A) : (A 151).length = 8 := hI.2.1 151 (by omega) (by omega)
theorem mlen_152 (hI : MI f A) : (A 152).length = 81 := hI.2.1 152 (by omega) (by omega)
theorem mlen_153 (hI : MI f A) : (A 153).length = 400 := hI.2.1 153 (by omega) (by omega)
theorem mlen_154 (hI : MI f A) : (A 154).length = 10 := hI.2.1 154 (by omega) (by omega)
theorem mlen_155 (hI : MI f A) : (A 155).length = 9 := hI.2.1 155 (by omega) (by omega)
theorem mlen_156 (hI : MI f A) : (A 156).length = 81 := hI.2.1 156 (by omega) (by omega)
theorem mlen_157 (hI : MI f A) : (A 157).length = 400 := hI.2.1 157 (by omega) (by omega)
theorem mlen_158 (hI : MI f A) : (A 158).length = 6 := hI.2.1 158 (by omega) (by omega)
theorem mlen_159 (hI : MI f A) : (A 159).length = 6 := hI.2.1 159 (by omega) (by omega)
theorem mlen_160 (hI : MI f A) : (A 160).length = 100 := hI.2.1 160 (by omega) (by omega)
theorem mlen_161 (hI : MI f A) : (A 161).length = 100 := hI.2.1 161 (by omega) (by omega)
theorem mlen_162 (hI : MI f A) : (A 162).length = 100 := hI.2.1 162 (by omega) (by omega)
theorem mlen_163 (hI : MI f A) : (A 163).length = 10 := hI.2.1 163 (by omega) (by omega)
theorem mlen_164 (hI : MI f A) : (A 164).length = 10 := hI.2.1 164 (by omega) (by omega)
theorem mlen_165 (hI : MI f A) : (A 165).length = 10 := hI.2.1 165 (by omega) (by omega)
theorem mlen_166 (hI : MI f A) : (A 166).length = 9 := hI.2.1 166 (by omega) (by omega)
theorem mt_148 {v : Int32} {i : Nat} (hI : MI f A) (e : v = (A 148).getD i 0) (h : i < 1690) : MT i v.toInt := by
  have p := hI.2.2.1 0 i (by omega) h
  rw [show 1690 * 0 + i = i by omega, ← e] at p
  exact p
theorem mp_153 {v : Int32} {i : Nat} (hI : MI f A) (e : v = (A 153).getD i 0) : MP_rings i v.toInt := by
  rw [e]
  exact hI.2.2.2.1 153 i
theorem mp_157 {v : Int32} {i : Nat} (hI : MI f A) (e : v = (A 157).getD i 0) : MP_rings i v.toInt := by
  rw [e]
  exact hI.2.2.2.1 157 i
theorem mp_158 {v : Int32} {i : Nat} (hI : MI f A) (e : v = (A 158).getD i 0) : 0 ≤ v.toInt ∧ v.toInt ≤ 9 := by
  rw [e]
  exact hI.2.2.2.1 158 i
theorem mp_159 {v : Int32} {i : Nat} (hI : MI f A) (e : v = (A 159).getD i 0) : 0 ≤ v.toInt ∧ v.toInt ≤ 8 := by
  rw [e]
  exact hI.2.2.2.1 159 i
theorem mp_164 {v : Int32} {i : Nat} (hI : MI f A) (e : v = (A 164).getD i 0) : -1 ≤ v.toInt ∧ v.toInt ≤ 9 := by
  rw [e]
  exact hI.2.2.2.1 164 i
theorem mp_149 {v : Int32} {i : Nat} (hI : MI f A) (e : v = (A 149).getD i 0) : 0 ≤ v.toInt ∧ v.toInt ≤ 1 := by
  rw [e]
  exact hI.2.2.2.1 149 i
theorem mp_m {i : Nat} {x : Int} (h : MP_rings i x) (hi : i % 10 = 0) : 0 ≤ x ∧ x ≤ 6 := h.1 hi
theorem mp_w {i : Nat} {x : Int} (h : MP_rings i x) (hi : 4 ≤ i % 10) : 0 ≤ x ∧ x ≤ 8 := h.2 hi
/-- who wants is of the village (what is told now) -/
theorem mw_at {v w : Int} {x y z u : Int32} (hI : MI f A) (hv : v = 610 ∨ v = 742) (h0 : 0 ≤ w) (hw : w < u.toInt) (eu : u = (A 148).getD (v + 1).toNat 0) (ex : x = (A 148).getD (v + 102 + 4 * w).toNat 0) (ey : y = (A 148).getD (v + 102 + 4 * w + 1).toNat 0) (ez : z = (A 148).getD v.toNat 0) : x.toInt < z.toInt ∧ y.toInt < z.toInt := by
  obtain ⟨n, rfl⟩ : ∃ n : Nat, w = n := ⟨w.toNat, by omega⟩
  rcases hv with rfl | rfl
  · have h := hI.2.2.2.2.2 0 0 n (by omega) (by omega)
    rw [show 1690 * 0 + (611 + 132 * 0) = ((610 : Int) + 1).toNat by decide, show 1690 * 0 + (712 + 132 * 0 + 4 * n) = ((610 : Int) + 102 + 4 * (n : Int)).toNat by omega, show 1690 * 0 + (713 + 132 * 0 + 4 * n) = ((610 : Int) + 102 + 4 * (n : Int) + 1).toNat by omega, show 1690 * 0 + (610 + 132 * 0) = (610 : Int).toNat by decide, ← eu, ← ex, ← ey, ← ez] at h
    exact h hw
  · have h := hI.2.2.2.2.2 0 1 n (by omega) (by omega)
    rw [show 1690 * 0 + (611 + 132 * 1) = ((742 : Int) + 1).toNat by decide, show 1690 * 0 + (712 + 132 * 1 + 4 * n) = ((742 : Int) + 102 + 4 * (n : Int)).toNat by omega, show 1690 * 0 + (713 + 132 * 1 + 4 * n) = ((742 : Int) + 102 + 4 * (n : Int) + 1).toNat by omega, show 1690 * 0 + (610 + 132 * 1) = (742 : Int).toNat by decide, ← eu, ← ex, ← ey, ← ez] at h
    exact h hw
end MB
