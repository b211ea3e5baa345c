/-! ===== what always holds of the reference's cells (printed by gm.py) ===== -/
/-- of all[i], i below 1690 (what is told, or an image) -/
def MT (i : Nat) (x : Int) : Prop := (i = 0 → 0 ≤ x ∧ x ≤ 2) ∧ (i = 1 → 0 ≤ x ∧ x ≤ 3) ∧ (i = 2 → 0 ≤ x ∧ x ≤ 600) ∧ (610 ≤ i ∧ i < 874 ∧ (i - 610) % 132 = 0 → 0 ≤ x ∧ x ≤ 9) ∧ (610 ≤ i ∧ i < 874 ∧ (i - 610) % 132 = 1 → 0 ≤ x ∧ x ≤ 7) ∧ (874 ≤ i ∧ i < 1690 ∧ (i - 874) % 272 = 0 → 0 ≤ x ∧ x ≤ 30) ∧ (610 ≤ i ∧ i < 874 ∧ 102 ≤ (i - 610) % 132 ∧ (i - 610) % 132 < 130 ∧ 2 ≤ (i - 610) % 132 % 4 → 0 ≤ x ∧ x ≤ 8) ∧ (610 ≤ i ∧ i < 874 ∧ 3 ≤ (i - 610) % 132 ∧ (i - 610) % 132 < 84 → 0 ≤ x ∧ x ≤ 99) ∧ (610 ≤ i ∧ i < 874 ∧ 102 ≤ (i - 610) % 132 ∧ (i - 610) % 132 < 130 ∧ (i - 610) % 132 % 4 = 0 → 0 ≤ x ∧ x ≤ 99)
theorem MT_c0 {i : Nat} {x : Int} (h : MT i x) (hi : i = 0) : 0 ≤ x ∧ x ≤ 2 := h.1 hi
theorem MT_c1 {i : Nat} {x : Int} (h : MT i x) (hi : i = 1) : 0 ≤ x ∧ x ≤ 3 := h.2.1 hi
theorem MT_c2 {i : Nat} {x : Int} (h : MT i x) (hi : i = 2) : 0 ≤ x ∧ x ≤ 600 := h.2.2.1 hi
theorem MT_people {i : Nat} {x : Int} (h : MT i x) (hi : 610 ≤ i ∧ i < 874 ∧ (i - 610) % 132 = 0) : 0 ≤ x ∧ x ≤ 9 := h.2.2.2.1 hi
theorem MT_wants {i : Nat} {x : Int} (h : MT i x) (hi : 610 ≤ i ∧ i < 874 ∧ (i - 610) % 132 = 1) : 0 ≤ x ∧ x ≤ 7 := h.2.2.2.2.1 hi
theorem MT_acts {i : Nat} {x : Int} (h : MT i x) (hi : 874 ≤ i ∧ i < 1690 ∧ (i - 874) % 272 = 0) : 0 ≤ x ∧ x ≤ 30 := h.2.2.2.2.2.1 hi
theorem MT_want {i : Nat} {x : Int} (h : MT i x) (hi : 610 ≤ i ∧ i < 874 ∧ 102 ≤ (i - 610) % 132 ∧ (i - 610) % 132 < 130 ∧ 2 ≤ (i - 610) % 132 % 4) : 0 ≤ x ∧ x ≤ 8 := h.2.2.2.2.2.2.1 hi
theorem MT_word {i : Nat} {x : Int} (h : MT i x) (hi : 610 ≤ i ∧ i < 874 ∧ 3 ≤ (i - 610) % 132 ∧ (i - 610) % 132 < 84) : 0 ≤ x ∧ x ≤ 99 := h.2.2.2.2.2.2.2.1 hi
theorem MT_much {i : Nat} {x : Int} (h : MT i x) (hi : 610 ≤ i ∧ i < 874 ∧ 102 ≤ (i - 610) % 132 ∧ (i - 610) % 132 < 130 ∧ (i - 610) % 132 % 4 = 0) : 0 ≤ x ∧ x ≤ 99 := h.2.2.2.2.2.2.2.2 hi
def MP_rings (i : Nat) (x : Int) : Prop := (i % 10 = 0 → 0 ≤ x ∧ x ≤ 6) ∧ (4 ≤ i % 10 → 0 ≤ x ∧ x ≤ 8)
def MP_ringsThen (i : Nat) (x : Int) : Prop := MP_rings i x
def MP_round (i : Nat) (x : Int) : Prop := 0 ≤ x ∧ x ≤ 9
def MP_bestRound (i : Nat) (x : Int) : Prop := 0 ≤ x ∧ x ≤ 8
def MP_from0 (i : Nat) (x : Int) : Prop := -1 ≤ x ∧ x ≤ 9
def MP_has (i : Nat) (x : Int) : Prop := 0 ≤ x ∧ x ≤ 1
def MP (k i : Nat) (x : Int) : Prop := match k with
  | 153 => MP_rings i x
  | 157 => MP_ringsThen i x
  | 158 => MP_round i x
  | 159 => MP_bestRound i x
  | 164 => MP_from0 i x
  | 149 => MP_has i x
  | _ => True
def MF (j : Nat) (x : Int) : Prop := match j with
  | 2 => 0 ≤ x ∧ x ≤ 600
  | 3 => 0 ≤ x ∧ x ≤ 600
  | 14 => 0 ≤ x ∧ x ≤ 30
  | 23 => 0 ≤ x ∧ x ≤ 6
  | 24 => 0 ≤ x ∧ x ≤ 6
  | 8 => 0 ≤ x ∧ x ≤ 1
  | 5 => 0 ≤ x ∧ x ≤ 4
  | _ => True
/-- of an act: a strike names a ring, a ring's much, an owing's much -/
def MRA (k x y : Int) : Prop := (k = 3 → 0 ≤ x) ∧ (k = 2 → 0 ≤ x ∧ x ≤ 99) ∧ (k = 0 ∨ k = 1 → 0 ≤ y ∧ y ≤ 99)
def MR (xs : List Int32) : Prop := ∀ c a b : Int, 0 ≤ c → c < 4 → 0 ≤ a ∧ a ≤ 2 → 0 ≤ b ∧ b ≤ 29 → MRA (xs.getD (1690 * c + (875 + 272 * a + 9 * b)).toNat 0).toInt (xs.getD (1690 * c + (875 + 272 * a + 9 * b) + 1).toNat 0).toInt (xs.getD (1690 * c + (875 + 272 * a + 9 * b) + 3).toNat 0).toInt
/-- who wants is of the village -/
def MW (xs : List Int32) : Prop := ∀ c a w : Nat, c < 4 → a < 2 → (w : Int) < (xs.getD (1690 * c + (611 + 132 * a)) 0).toInt → (xs.getD (1690 * c + (712 + 132 * a + 4 * w)) 0).toInt < (xs.getD (1690 * c + (610 + 132 * a)) 0).toInt ∧ (xs.getD (1690 * c + (713 + 132 * a + 4 * w)) 0).toInt < (xs.getD (1690 * c + (610 + 132 * a)) 0).toInt
def MI (f : Nat → Int32) (A : Nat → List Int32) : Prop := (∀ j, MF j (f j).toInt) ∧ (∀ k, 148 ≤ k → k < 167 → (A k).length = ml k) ∧ (∀ c i, c < 4 → i < 1690 → MT i ((A 148).getD (1690 * c + i) 0).toInt) ∧ (∀ k i, MP k i ((A k).getD i 0).toInt) ∧ MR (A 148) ∧ MW (A 148)
theorem gz_ne {xs : List Int32} {i j : Nat} {v : Int32} (h : i ≠ j) : (xs.set i v).getD j 0 = xs.getD j 0 := by
  rw [List.getD_eq_getElem?_getD, List.getD_eq_getElem?_getD, List.getElem?_set_ne h]
theorem gz_eq {xs : List Int32} {i : Nat} {v : Int32} (h : i < xs.length) : (xs.set i v).getD i 0 = v := by
  rw [List.getD_eq_getElem?_getD, List.getElem?_set_self h]
  rfl
theorem el_fr {A A2 : Nat → List Int32} {k i : Nat} (h : A2 k = A k) : (A2 k).getD i 0 = (A k).getD i 0 := by rw [h]
theorem el_ne {A A2 : Nat → List Int32} {k a i : Nat} {v : Int32} (e : A2 = upa A k ((A k).set a v)) (h : a ≠ i) : (A2 k).getD i 0 = (A k).getD i 0 := by
  rw [upa_at e]
  exact gz_ne h
theorem el_eq {A A2 : Nat → List Int32} {k i : Nat} {v : Int32} (e : A2 = upa A k ((A k).set i v)) (h : i < (A k).length) : (A2 k).getD i 0 = v := by
  rw [upa_at e]
  exact gz_eq h
theorem mi_put {f : Nat → Int32} {A : Nat → List Int32} {n : Nat} {x : Int32} (hI : MI f A) (h : MF n x.toInt) : MI (upf f n x) A := by
  refine ⟨fun j => ?_, hI.2⟩
  by_cases e : j = n
  · subst e
    rw [upf_eq]
    exact h
  · rw [upf_ne e]
    exact hI.1 j
theorem mi_st {f : Nat → Int32} {A : Nat → List Int32} {k i : Nat} {v : Int32} (hI : MI f A) (hk : 148 ≤ k) (hk2 : k < 167) (h148 : k ≠ 148) (hi : i < ml k) (h : MP k i v.toInt) : MI f (upa A k ((A k).set i v)) := by
  refine ⟨hI.1, fun j h1 h2 => ?_, fun c j h1 h2 => ?_, fun j m => ?_, (by rw [upa_ne (Ne.symm h148)]; exact hI.2.2.2.2)⟩
  · by_cases e : j = k
    · subst e
      rw [upa_eq, List.length_set]
      exact hI.2.1 j h1 h2
    · rw [upa_ne e]
      exact hI.2.1 j h1 h2
  · rw [upa_ne (Ne.symm h148)]
    exact hI.2.2.1 c j h1 h2
  · by_cases e : j = k
    · subst e
      rw [upa_eq]
      by_cases e2 : i = m
      · subst e2
        rw [gz_eq (by rw [hI.2.1 j hk hk2]; exact hi)]
        exact h
      · rw [gz_ne e2]
        exact hI.2.2.2.1 j m
    · rw [upa_ne e]
      exact hI.2.2.2.1 j m
theorem mi_st0 {f : Nat → Int32} {A : Nat → List Int32} {i : Nat} {v : Int32} (hI : MI f A) (hi : i < 610) (h : MT i v.toInt) : MI f (upa A 148 ((A 148).set i v)) := by
  have hl := hI.2.1 148 (by omega) (by omega)
  refine ⟨hI.1, fun j h1 h2 => ?_, fun c j h1 h2 => ?_, fun j m => ?_, fun c a b h0 h1 h2 h3 => ?_, fun c a w h0 h1 h2 => ?_⟩
  · by_cases e : j = 148
    · subst e
      rw [upa_eq, List.length_set]
      exact hl
    · rw [upa_ne e]
      exact hI.2.1 j h1 h2
  · rw [upa_eq]
    by_cases e2 : i = 1690 * c + j
    · have e3 : i = j := by omega
      rw [← e2, gz_eq (by rw [hl]; show i < 6760; omega), ← e3]
      exact h
    · rw [gz_ne e2]
      exact hI.2.2.1 c j h1 h2
  · by_cases e : j = 148
    · subst e
      exact trivial
    · rw [upa_ne e]
      exact hI.2.2.2.1 j m
  · rw [upa_eq, gz_ne (by omega), gz_ne (by omega), gz_ne (by omega)]
    exact hI.2.2.2.2.1 c a b h0 h1 h2 h3
  · rw [upa_eq, gz_ne (by omega)] at h2
    rw [upa_eq, gz_ne (by omega), gz_ne (by omega), gz_ne (by omega)]
    exact hI.2.2.2.2.2 c a w h0 h1 h2
theorem mi_row {f : Nat → Int32} {A : Nat → List Int32} (hI : MI f A) {i : Int} {x a : Int32} (hi : ∃ a b : Int, i = 875 + 272 * a + 9 * b ∧ (0 ≤ a ∧ a ≤ 2) ∧ 0 ≤ b ∧ b ≤ 29) (ex : x = (A 148).getD i.toNat 0) (ea : a = (A 148).getD (i + 1).toNat 0) (h : x.toInt = 3) : 0 ≤ a.toInt := by
  obtain ⟨u, v, hi, h1, h2⟩ := hi
  have hr := hI.2.2.2.2.1 0 u v (by omega) (by omega) h1 h2
  rw [← hi, show 1690 * 0 + i = i by omega, ← ex, ← ea] at hr
  exact hr.1 h
theorem mi_rowR {f : Nat → Int32} {A : Nat → List Int32} (hI : MI f A) {i : Int} {x a : Int32} (hi : ∃ a b : Int, i = 875 + 272 * a + 9 * b ∧ (0 ≤ a ∧ a ≤ 2) ∧ 0 ≤ b ∧ b ≤ 29) (ex : x = (A 148).getD i.toNat 0) (ea : a = (A 148).getD (i + 1).toNat 0) (h : x.toInt = 2) : 0 ≤ a.toInt ∧ a.toInt ≤ 99 := by
  obtain ⟨u, v, hi, h1, h2⟩ := hi
  have hr := hI.2.2.2.2.1 0 u v (by omega) (by omega) h1 h2
  rw [← hi, show 1690 * 0 + i = i by omega, ← ex, ← ea] at hr
  exact hr.2.1 h
theorem mi_rowO {f : Nat → Int32} {A : Nat → List Int32} (hI : MI f A) {i : Int} {x a : Int32} (hi : ∃ a b : Int, i = 875 + 272 * a + 9 * b ∧ (0 ≤ a ∧ a ≤ 2) ∧ 0 ≤ b ∧ b ≤ 29) (ex : x = (A 148).getD i.toNat 0) (ea : a = (A 148).getD (i + 3).toNat 0) (h : x.toInt = 0 ∨ x.toInt = 1) : 0 ≤ a.toInt ∧ a.toInt ≤ 99 := by
  obtain ⟨u, v, hi, h1, h2⟩ := hi
  have hr := hI.2.2.2.2.1 0 u v (by omega) (by omega) h1 h2
  rw [← hi, show 1690 * 0 + i = i by omega, ← ex, ← ea] at hr
  exact hr.2.2 h
section MZ
variable {X : pm_X} {d mi pc : Nat} {ls st : List Value} {wc : pm_W} {f : Nat → Int32} {A : Nat → List Int32} {Q : pm_R → Prop} {x : Int32} {a : Int}
theorem mz_ld148 (hd : pm_dec pg mi pc = some .iaload) (hc : wc.length = 147) (hI : MI f A) (hx : x.toInt = a) (h0 : 0 ≤ a) (h1 : a < 1690) (kk : ∀ v : Int32, v = (A 148).getD a.toNat 0 → MT a.toNat v.toInt → pmE pg X pg_tyl pg_cl d mi (pc + 1) ls (.int v :: st) (md wc f A) Q) : pmE pg X pg_tyl pg_cl d mi pc ls (.int x :: .ref 148 :: st) (md wc f A) Q :=
  pz_iald hd (md_a148 hc) (hI.2.1 148 (by omega) (by omega)) hx h0 (by show a < ((6760 : Nat) : Int); omega) (fun v e => kk v e (by
    have h := hI.2.2.1 0 a.toNat (by omega) (by omega)
    rw [show 1690 * 0 + a.toNat = a.toNat by omega, ← e] at h
    exact h))
theorem mz_st148 {v : Int32} (hd : pm_dec pg mi pc = some .iastore) (hc : wc.length = 147) (hI : MI f A) (hx : x.toInt = a) (h0 : 0 ≤ a) (h1 : a < 610) (hp : MT a.toNat v.toInt) (kk : ∀ A' : Nat → List Int32, A' = upa A 148 ((A 148).set a.toNat v) → MI f A' → pmE pg X pg_tyl pg_cl d mi (pc + 1) ls st (md wc f A') Q) : pmE pg X pg_tyl pg_cl d mi pc ls (.int v :: .int x :: .ref 148 :: st) (md wc f A) Q :=
  pz_iast hd (md_a148 hc) (hI.2.1 148 (by omega) (by omega)) hx h0 (by show a < ((6760 : Nat) : Int); omega) (md_s148 hc) (kk _ rfl (mi_st0 hI (by omega) hp))
theorem mz_st150 {v : Int32} (hd : pm_dec pg mi pc = some .iastore) (hc : wc.length = 147) (hI : MI f A) (hx : x.toInt = a) (h0 : 0 ≤ a) (h1 : a < 272) (kk : ∀ A' : Nat → List Int32, A' = upa A 150 ((A 150).set a.toNat v) → MI f A' → pmE pg X pg_tyl pg_cl d mi (pc + 1) ls st (md wc f A') Q) : pmE pg X pg_tyl pg_cl d mi pc ls (.int v :: .int x :: .ref 150 :: st) (md wc f A) Q :=
  pz_iast hd (md_a150 hc) (hI.2.1 150 (by omega) (by omega)) hx h0 (by show a < ((272 : Nat) : Int); omega) (md_s150 hc) (kk _ rfl (mi_st hI (by omega) (by omega) (by omega) (by show a.toNat < 272; omega) trivial))
theorem mz_st151 {v : Int32} (hd : pm_dec pg mi pc = some .iastore) (hc : wc.length = 147) (hI : MI f A) (hx : x.toInt = a) (h0 : 0 ≤ a) (h1 : a < 8) (kk : ∀ A' : Nat → List Int32, A' = upa A 151 ((A 151).set a.toNat v) → MI f A' → pmE pg X pg_tyl pg_cl d mi (pc + 1) ls st (md wc f A') Q) : pmE pg X pg_tyl pg_cl d mi pc ls (.int v :: .int x :: .ref 151 :: st) (md wc f A) Q :=
  pz_iast hd (md_a151 hc) (hI.2.1 151 (by omega) (by omega)) hx h0 (by show a < ((8 : Nat) : Int); omega) (md_s151 hc) (kk _ rfl (mi_st hI (by omega) (by omega) (by omega) (by show a.toNat < 8; omega) trivial))
theorem mz_ld152 (hd : pm_dec pg mi pc = some .iaload) (hc : wc.length = 147) (hI : MI f A) (hx : x.toInt = a) (h0 : 0 ≤ a) (h1 : a < 81) (kk : ∀ v : Int32, v = (A 152).getD a.toNat 0 → pmE pg X pg_tyl pg_cl d mi (pc + 1) ls (.int v :: st) (md wc f A) Q) : pmE pg X pg_tyl pg_cl d mi pc ls (.int x :: .ref 152 :: st) (md wc f A) Q :=
  pz_iald hd (md_a152 hc) (hI.2.1 152 (by omega) (by omega)) hx h0 (by show a < ((81 : Nat) : Int); omega) (fun v e => kk v e)
theorem mz_st152 {v : Int32} (hd : pm_dec pg mi pc = some .iastore) (hc : wc.length = 147) (hI : MI f A) (hx : x.toInt = a) (h0 : 0 ≤ a) (h1 : a < 81) (kk : ∀ A' : Nat → List Int32, A' = upa A 152 ((A 152).set a.toNat v) → MI f A' → pmE pg X pg_tyl pg_cl d mi (pc + 1) ls st (md wc f A') Q) : pmE pg X pg_tyl pg_cl d mi pc ls (.int v :: .int x :: .ref 152 :: st) (md wc f A) Q :=
  pz_iast hd (md_a152 hc) (hI.2.1 152 (by omega) (by omega)) hx h0 (by show a < ((81 : Nat) : Int); omega) (md_s152 hc) (kk _ rfl (mi_st hI (by omega) (by omega) (by omega) (by show a.toNat < 81; omega) trivial))
theorem mz_ld153 (hd : pm_dec pg mi pc = some .iaload) (hc : wc.length = 147) (hI : MI f A) (hx : x.toInt = a) (h0 : 0 ≤ a) (h1 : a < 400) (kk : ∀ v : Int32, v = (A 153).getD a.toNat 0 → MP_rings a.toNat v.toInt → pmE pg X pg_tyl pg_cl d mi (pc + 1) ls (.int v :: st) (md wc f A) Q) : pmE pg X pg_tyl pg_cl d mi pc ls (.int x :: .ref 153 :: st) (md wc f A) Q :=
  pz_iald hd (md_a153 hc) (hI.2.1 153 (by omega) (by omega)) hx h0 (by show a < ((400 : Nat) : Int); omega) (fun v e => kk v e (by rw [e]; exact hI.2.2.2.1 153 a.toNat))
theorem mz_st153 {v : Int32} (hd : pm_dec pg mi pc = some .iastore) (hc : wc.length = 147) (hI : MI f A) (hx : x.toInt = a) (h0 : 0 ≤ a) (h1 : a < 400) (hp : MP_rings a.toNat v.toInt) (kk : ∀ A' : Nat → List Int32, A' = upa A 153 ((A 153).set a.toNat v) → MI f A' → pmE pg X pg_tyl pg_cl d mi (pc + 1) ls st (md wc f A') Q) : pmE pg X pg_tyl pg_cl d mi pc ls (.int v :: .int x :: .ref 153 :: st) (md wc f A) Q :=
  pz_iast hd (md_a153 hc) (hI.2.1 153 (by omega) (by omega)) hx h0 (by show a < ((400 : Nat) : Int); omega) (md_s153 hc) (kk _ rfl (mi_st hI (by omega) (by omega) (by omega) (by show a.toNat < 400; omega) hp))
theorem mz_st154 {v : Int32} (hd : pm_dec pg mi pc = some .iastore) (hc : wc.length = 147) (hI : MI f A) (hx : x.toInt = a) (h0 : 0 ≤ a) (h1 : a < 10) (kk : ∀ A' : Nat → List Int32, A' = upa A 154 ((A 154).set a.toNat v) → MI f A' → pmE pg X pg_tyl pg_cl d mi (pc + 1) ls st (md wc f A') Q) : pmE pg X pg_tyl pg_cl d mi pc ls (.int v :: .int x :: .ref 154 :: st) (md wc f A) Q :=
  pz_iast hd (md_a154 hc) (hI.2.1 154 (by omega) (by omega)) hx h0 (by show a < ((10 : Nat) : Int); omega) (md_s154 hc) (kk _ rfl (mi_st hI (by omega) (by omega) (by omega) (by show a.toNat < 10; omega) trivial))
theorem mz_st155 {v : Int32} (hd : pm_dec pg mi pc = some .iastore) (hc : wc.length = 147) (hI : MI f A) (hx : x.toInt = a) (h0 : 0 ≤ a) (h1 : a < 9) (kk : ∀ A' : Nat → List Int32, A' = upa A 155 ((A 155).set a.toNat v) → MI f A' → pmE pg X pg_tyl pg_cl d mi (pc + 1) ls st (md wc f A') Q) : pmE pg X pg_tyl pg_cl d mi pc ls (.int v :: .int x :: .ref 155 :: st) (md wc f A) Q :=
  pz_iast hd (md_a155 hc) (hI.2.1 155 (by omega) (by omega)) hx h0 (by show a < ((9 : Nat) : Int); omega) (md_s155 hc) (kk _ rfl (mi_st hI (by omega) (by omega) (by omega) (by show a.toNat < 9; omega) trivial))
theorem mz_ld156 (hd : pm_dec pg mi pc = some .iaload) (hc : wc.length = 147) (hI : MI f A) (hx : x.toInt = a) (h0 : 0 ≤ a) (h1 : a < 81) (kk : ∀ v : Int32, v = (A 156).getD a.toNat 0 → pmE pg X pg_tyl pg_cl d mi (pc + 1) ls (.int v :: st) (md wc f A) Q) : pmE pg X pg_tyl pg_cl d mi pc ls (.int x :: .ref 156 :: st) (md wc f A) Q :=
  pz_iald hd (md_a156 hc) (hI.2.1 156 (by omega) (by omega)) hx h0 (by show a < ((81 : Nat) : Int); omega) (fun v e => kk v e)
theorem mz_st156 {v : Int32} (hd : pm_dec pg mi pc = some .iastore) (hc : wc.length = 147) (hI : MI f A) (hx : x.toInt = a) (h0 : 0 ≤ a) (h1 : a < 81) (kk : ∀ A' : Nat → List Int32, A' = upa A 156 ((A 156).set a.toNat v) → MI f A' → pmE pg X pg_tyl pg_cl d mi (pc + 1) ls st (md wc f A') Q) : pmE pg X pg_tyl pg_cl d mi pc ls (.int v :: .int x :: .ref 156 :: st) (md wc f A) Q :=
  pz_iast hd (md_a156 hc) (hI.2.1 156 (by omega) (by omega)) hx h0 (by show a < ((81 : Nat) : Int); omega) (md_s156 hc) (kk _ rfl (mi_st hI (by omega) (by omega) (by omega) (by show a.toNat < 81; omega) trivial))
theorem mz_ld157 (hd : pm_dec pg mi pc = some .iaload) (hc : wc.length = 147) (hI : MI f A) (hx : x.toInt = a) (h0 : 0 ≤ a) (h1 : a < 400) (kk : ∀ v : Int32, v = (A 157).getD a.toNat 0 → MP_ringsThen a.toNat v.toInt → pmE pg X pg_tyl pg_cl d mi (pc + 1) ls (.int v :: st) (md wc f A) Q) : pmE pg X pg_tyl pg_cl d mi pc ls (.int x :: .ref 157 :: st) (md wc f A) Q :=
  pz_iald hd (md_a157 hc) (hI.2.1 157 (by omega) (by omega)) hx h0 (by show a < ((400 : Nat) : Int); omega) (fun v e => kk v e (by rw [e]; exact hI.2.2.2.1 157 a.toNat))
theorem mz_st157 {v : Int32} (hd : pm_dec pg mi pc = some .iastore) (hc : wc.length = 147) (hI : MI f A) (hx : x.toInt = a) (h0 : 0 ≤ a) (h1 : a < 400) (hp : MP_ringsThen a.toNat v.toInt) (kk : ∀ A' : Nat → List Int32, A' = upa A 157 ((A 157).set a.toNat v) → MI f A' → pmE pg X pg_tyl pg_cl d mi (pc + 1) ls st (md wc f A') Q) : pmE pg X pg_tyl pg_cl d mi pc ls (.int v :: .int x :: .ref 157 :: st) (md wc f A) Q :=
  pz_iast hd (md_a157 hc) (hI.2.1 157 (by omega) (by omega)) hx h0 (by show a < ((400 : Nat) : Int); omega) (md_s157 hc) (kk _ rfl (mi_st hI (by omega) (by omega) (by omega) (by show a.toNat < 400; omega) hp))
theorem mz_ld158 (hd : pm_dec pg mi pc = some .iaload) (hc : wc.length = 147) (hI : MI f A) (hx : x.toInt = a) (h0 : 0 ≤ a) (h1 : a < 6) (kk : ∀ v : Int32, v = (A 158).getD a.toNat 0 → MP_round a.toNat v.toInt → pmE pg X pg_tyl pg_cl d mi (pc + 1) ls (.int v :: st) (md wc f A) Q) : pmE pg X pg_tyl pg_cl d mi pc ls (.int x :: .ref 158 :: st) (md wc f A) Q :=
  pz_iald hd (md_a158 hc) (hI.2.1 158 (by omega) (by omega)) hx h0 (by show a < ((6 : Nat) : Int); omega) (fun v e => kk v e (by rw [e]; exact hI.2.2.2.1 158 a.toNat))
theorem mz_st158 {v : Int32} (hd : pm_dec pg mi pc = some .iastore) (hc : wc.length = 147) (hI : MI f A) (hx : x.toInt = a) (h0 : 0 ≤ a) (h1 : a < 6) (hp : MP_round a.toNat v.toInt) (kk : ∀ A' : Nat → List Int32, A' = upa A 158 ((A 158).set a.toNat v) → MI f A' → pmE pg X pg_tyl pg_cl d mi (pc + 1) ls st (md wc f A') Q) : pmE pg X pg_tyl pg_cl d mi pc ls (.int v :: .int x :: .ref 158 :: st) (md wc f A) Q :=
  pz_iast hd (md_a158 hc) (hI.2.1 158 (by omega) (by omega)) hx h0 (by show a < ((6 : Nat) : Int); omega) (md_s158 hc) (kk _ rfl (mi_st hI (by omega) (by omega) (by omega) (by show a.toNat < 6; omega) hp))
theorem mz_ld159 (hd : pm_dec pg mi pc = some .iaload) (hc : wc.length = 147) (hI : MI f A) (hx : x.toInt = a) (h0 : 0 ≤ a) (h1 : a < 6) (kk : ∀ v : Int32, v = (A 159).getD a.toNat 0 → MP_bestRound a.toNat v.toInt → pmE pg X pg_tyl pg_cl d mi (pc + 1) ls (.int v :: st) (md wc f A) Q) : pmE pg X pg_tyl pg_cl d mi pc ls (.int x :: .ref 159 :: st) (md wc f A) Q :=
  pz_iald hd (md_a159 hc) (hI.2.1 159 (by omega) (by omega)) hx h0 (by show a < ((6 : Nat) : Int); omega) (fun v e => kk v e (by rw [e]; exact hI.2.2.2.1 159 a.toNat))
theorem mz_st159 {v : Int32} (hd : pm_dec pg mi pc = some .iastore) (hc : wc.length = 147) (hI : MI f A) (hx : x.toInt = a) (h0 : 0 ≤ a) (h1 : a < 6) (hp : MP_bestRound a.toNat v.toInt) (kk : ∀ A' : Nat → List Int32, A' = upa A 159 ((A 159).set a.toNat v) → MI f A' → pmE pg X pg_tyl pg_cl d mi (pc + 1) ls st (md wc f A') Q) : pmE pg X pg_tyl pg_cl d mi pc ls (.int v :: .int x :: .ref 159 :: st) (md wc f A) Q :=
  pz_iast hd (md_a159 hc) (hI.2.1 159 (by omega) (by omega)) hx h0 (by show a < ((6 : Nat) : Int); omega) (md_s159 hc) (kk _ rfl (mi_st hI (by omega) (by omega) (by omega) (by show a.toNat < 6; omega) hp))
theorem mz_ld160 (hd : pm_dec pg mi pc = some .iaload) (hc : wc.length = 147) (hI : MI f A) (hx : x.toInt = a) (h0 : 0 ≤ a) (h1 : a < 100) (kk : ∀ v : Int32, v = (A 160).getD a.toNat 0 → pmE pg X pg_tyl pg_cl d mi (pc + 1) ls (.int v :: st) (md wc f A) Q) : pmE pg X pg_tyl pg_cl d mi pc ls (.int x :: .ref 160 :: st) (md wc f A) Q :=
  pz_iald hd (md_a160 hc) (hI.2.1 160 (by omega) (by omega)) hx h0 (by show a < ((100 : Nat) : Int); omega) (fun v e => kk v e)
theorem mz_st160 {v : Int32} (hd : pm_dec pg mi pc = some .iastore) (hc : wc.length = 147) (hI : MI f A) (hx : x.toInt = a) (h0 : 0 ≤ a) (h1 : a < 100) (kk : ∀ A' : Nat → List Int32, A' = upa A 160 ((A 160).set a.toNat v) → MI f A' → pmE pg X pg_tyl pg_cl d mi (pc + 1) ls st (md wc f A') Q) : pmE pg X pg_tyl pg_cl d mi pc ls (.int v :: .int x :: .ref 160 :: st) (md wc f A) Q :=
  pz_iast hd (md_a160 hc) (hI.2.1 160 (by omega) (by omega)) hx h0 (by show a < ((100 : Nat) : Int); omega) (md_s160 hc) (kk _ rfl (mi_st hI (by omega) (by omega) (by omega) (by show a.toNat < 100; omega) trivial))
theorem mz_ld161 (hd : pm_dec pg mi pc = some .iaload) (hc : wc.length = 147) (hI : MI f A) (hx : x.toInt = a) (h0 : 0 ≤ a) (h1 : a < 100) (kk : ∀ v : Int32, v = (A 161).getD a.toNat 0 → pmE pg X pg_tyl pg_cl d mi (pc + 1) ls (.int v :: st) (md wc f A) Q) : pmE pg X pg_tyl pg_cl d mi pc ls (.int x :: .ref 161 :: st) (md wc f A) Q :=
  pz_iald hd (md_a161 hc) (hI.2.1 161 (by omega) (by omega)) hx h0 (by show a < ((100 : Nat) : Int); omega) (fun v e => kk v e)
theorem mz_st161 {v : Int32} (hd : pm_dec pg mi pc = some .iastore) (hc : wc.length = 147) (hI : MI f A) (hx : x.toInt = a) (h0 : 0 ≤ a) (h1 : a < 100) (kk : ∀ A' : Nat → List Int32, A' = upa A 161 ((A 161).set a.toNat v) → MI f A' → pmE pg X pg_tyl pg_cl d mi (pc + 1) ls st (md wc f A') Q) : pmE pg X pg_tyl pg_cl d mi pc ls (.int v :: .int x :: .ref 161 :: st) (md wc f A) Q :=
  pz_iast hd (md_a161 hc) (hI.2.1 161 (by omega) (by omega)) hx h0 (by show a < ((100 : Nat) : Int); omega) (md_s161 hc) (kk _ rfl (mi_st hI (by omega) (by omega) (by omega) (by show a.toNat < 100; omega) trivial))
theorem mz_ld162 (hd : pm_dec pg mi pc = some .iaload) (hc : wc.length = 147) (hI : MI f A) (hx : x.toInt = a) (h0 : 0 ≤ a) (h1 : a < 100) (kk : ∀ v : Int32, v = (A 162).getD a.toNat 0 → pmE pg X pg_tyl pg_cl d mi (pc + 1) ls (.int v :: st) (md wc f A) Q) : pmE pg X pg_tyl pg_cl d mi pc ls (.int x :: .ref 162 :: st) (md wc f A) Q :=
  pz_iald hd (md_a162 hc) (hI.2.1 162 (by omega) (by omega)) hx h0 (by show a < ((100 : Nat) : Int); omega) (fun v e => kk v e)
theorem mz_st162 {v : Int32} (hd : pm_dec pg mi pc = some .iastore) (hc : wc.length = 147) (hI : MI f A) (hx : x.toInt = a) (h0 : 0 ≤ a) (h1 : a < 100) (kk : ∀ A' : Nat → List Int32, A' = upa A 162 ((A 162).set a.toNat v) → MI f A' → pmE pg X pg_tyl pg_cl d mi (pc + 1) ls st (md wc f A') Q) : pmE pg X pg_tyl pg_cl d mi pc ls (.int v :: .int x :: .ref 162 :: st) (md wc f A) Q :=
  pz_iast hd (md_a162 hc) (hI.2.1 162 (by omega) (by omega)) hx h0 (by show a < ((100 : Nat) : Int); omega) (md_s162 hc) (kk _ rfl (mi_st hI (by omega) (by omega) (by omega) (by show a.toNat < 100; omega) trivial))
theorem mz_st163 {v : Int32} (hd : pm_dec pg mi pc = some .iastore) (hc : wc.length = 147) (hI : MI f A) (hx : x.toInt = a) (h0 : 0 ≤ a) (h1 : a < 10) (kk : ∀ A' : Nat → List Int32, A' = upa A 163 ((A 163).set a.toNat v) → MI f A' → pmE pg X pg_tyl pg_cl d mi (pc + 1) ls st (md wc f A') Q) : pmE pg X pg_tyl pg_cl d mi pc ls (.int v :: .int x :: .ref 163 :: st) (md wc f A) Q :=
  pz_iast hd (md_a163 hc) (hI.2.1 163 (by omega) (by omega)) hx h0 (by show a < ((10 : Nat) : Int); omega) (md_s163 hc) (kk _ rfl (mi_st hI (by omega) (by omega) (by omega) (by show a.toNat < 10; omega) trivial))
theorem mz_st164 {v : Int32} (hd : pm_dec pg mi pc = some .iastore) (hc : wc.length = 147) (hI : MI f A) (hx : x.toInt = a) (h0 : 0 ≤ a) (h1 : a < 10) (hp : MP_from0 a.toNat v.toInt) (kk : ∀ A' : Nat → List Int32, A' = upa A 164 ((A 164).set a.toNat v) → MI f A' → pmE pg X pg_tyl pg_cl d mi (pc + 1) ls st (md wc f A') Q) : pmE pg X pg_tyl pg_cl d mi pc ls (.int v :: .int x :: .ref 164 :: st) (md wc f A) Q :=
  pz_iast hd (md_a164 hc) (hI.2.1 164 (by omega) (by omega)) hx h0 (by show a < ((10 : Nat) : Int); omega) (md_s164 hc) (kk _ rfl (mi_st hI (by omega) (by omega) (by omega) (by show a.toNat < 10; omega) hp))
theorem mz_st165 {v : Int32} (hd : pm_dec pg mi pc = some .iastore) (hc : wc.length = 147) (hI : MI f A) (hx : x.toInt = a) (h0 : 0 ≤ a) (h1 : a < 10) (kk : ∀ A' : Nat → List Int32, A' = upa A 165 ((A 165).set a.toNat v) → MI f A' → pmE pg X pg_tyl pg_cl d mi (pc + 1) ls st (md wc f A') Q) : pmE pg X pg_tyl pg_cl d mi pc ls (.int v :: .int x :: .ref 165 :: st) (md wc f A) Q :=
  pz_iast hd (md_a165 hc) (hI.2.1 165 (by omega) (by omega)) hx h0 (by show a < ((10 : Nat) : Int); omega) (md_s165 hc) (kk _ rfl (mi_st hI (by omega) (by omega) (by omega) (by show a.toNat < 10; omega) trivial))
theorem mz_ld166 (hd : pm_dec pg mi pc = some .iaload) (hc : wc.length = 147) (hI : MI f A) (hx : x.toInt = a) (h0 : 0 ≤ a) (h1 : a < 9) (kk : ∀ v : Int32, v = (A 166).getD a.toNat 0 → pmE pg X pg_tyl pg_cl d mi (pc + 1) ls (.int v :: st) (md wc f A) Q) : pmE pg X pg_tyl pg_cl d mi pc ls (.int x :: .ref 166 :: st) (md wc f A) Q :=
  pz_iald hd (md_a166 hc) (hI.2.1 166 (by omega) (by omega)) hx h0 (by show a < ((9 : Nat) : Int); omega) (fun v e => kk v e)
theorem mz_st166 {v : Int32} (hd : pm_dec pg mi pc = some .iastore) (hc : wc.length = 147) (hI : MI f A) (hx : x.toInt = a) (h0 : 0 ≤ a) (h1 : a < 9) (kk : ∀ A' : Nat → List Int32, A' = upa A 166 ((A 166).set a.toNat v) → MI f A' → pmE pg X pg_tyl pg_cl d mi (pc + 1) ls st (md wc f A') Q) : pmE pg X pg_tyl pg_cl d mi pc ls (.int v :: .int x :: .ref 166 :: st) (md wc f A) Q :=
  pz_iast hd (md_a166 hc) (hI.2.1 166 (by omega) (by omega)) hx h0 (by show a < ((9 : Nat) : Int); omega) (md_s166 hc) (kk _ rfl (mi_st hI (by omega) (by omega) (by omega) (by show a.toNat < 9; omega) trivial))
theorem mz_put2 {jj : Nat} (hd : pm_dec pg mi pc = some (.putfield jj)) (hl : pm_put pg mi jj = some (12, 2, .int)) (hc : wc.length = 147) (hI : MI f A) (h1 : 0 ≤ x.toInt) (h2 : x.toInt ≤ 600) (kk : ∀ f' : Nat → Int32, f' = upf f 2 x → MI f' A → pmE pg X pg_tyl pg_cl d mi (pc + 3) ls st (md wc f' A) Q) : pmE pg X pg_tyl pg_cl d mi pc ls (.int x :: .ref 147 :: st) (md wc f A) Q :=
  pe_put hd hl (md_o hc) (Nat.le_of_ble_eq_true rfl) (pm_fit_int _) (md_f2 hc) (kk _ rfl (mi_put hI ⟨h1, h2⟩))
theorem mz_put3 {jj : Nat} (hd : pm_dec pg mi pc = some (.putfield jj)) (hl : pm_put pg mi jj = some (12, 3, .int)) (hc : wc.length = 147) (hI : MI f A) (h1 : 0 ≤ x.toInt) (h2 : x.toInt ≤ 600) (kk : ∀ f' : Nat → Int32, f' = upf f 3 x → MI f' A → pmE pg X pg_tyl pg_cl d mi (pc + 3) ls st (md wc f' A) Q) : pmE pg X pg_tyl pg_cl d mi pc ls (.int x :: .ref 147 :: st) (md wc f A) Q :=
  pe_put hd hl (md_o hc) (Nat.le_of_ble_eq_true rfl) (pm_fit_int _) (md_f3 hc) (kk _ rfl (mi_put hI ⟨h1, h2⟩))
theorem mz_put4 {jj : Nat} (hd : pm_dec pg mi pc = some (.putfield jj)) (hl : pm_put pg mi jj = some (12, 4, .int)) (hc : wc.length = 147) (hI : MI f A) (kk : ∀ f' : Nat → Int32, f' = upf f 4 x → MI f' A → pmE pg X pg_tyl pg_cl d mi (pc + 3) ls st (md wc f' A) Q) : pmE pg X pg_tyl pg_cl d mi pc ls (.int x :: .ref 147 :: st) (md wc f A) Q :=
  pe_put hd hl (md_o hc) (Nat.le_of_ble_eq_true rfl) (pm_fit_int _) (md_f4 hc) (kk _ rfl (mi_put hI trivial))
theorem mz_put5 {jj : Nat} (hd : pm_dec pg mi pc = some (.putfield jj)) (hl : pm_put pg mi jj = some (12, 5, .int)) (hc : wc.length = 147) (hI : MI f A) (h1 : 0 ≤ x.toInt) (h2 : x.toInt ≤ 4) (kk : ∀ f' : Nat → Int32, f' = upf f 5 x → MI f' A → pmE pg X pg_tyl pg_cl d mi (pc + 3) ls st (md wc f' A) Q) : pmE pg X pg_tyl pg_cl d mi pc ls (.int x :: .ref 147 :: st) (md wc f A) Q :=
  pe_put hd hl (md_o hc) (Nat.le_of_ble_eq_true rfl) (pm_fit_int _) (md_f5 hc) (kk _ rfl (mi_put hI ⟨h1, h2⟩))
theorem mz_put6 {jj : Nat} (hd : pm_dec pg mi pc = some (.putfield jj)) (hl : pm_put pg mi jj = some (12, 6, .int)) (hc : wc.length = 147) (hI : MI f A) (kk : ∀ f' : Nat → Int32, f' = upf f 6 x → MI f' A → pmE pg X pg_tyl pg_cl d mi (pc + 3) ls st (md wc f' A) Q) : pmE pg X pg_tyl pg_cl d mi pc ls (.int x :: .ref 147 :: st) (md wc f A) Q :=
  pe_put hd hl (md_o hc) (Nat.le_of_ble_eq_true rfl) (pm_fit_int _) (md_f6 hc) (kk _ rfl (mi_put hI trivial))
theorem mz_put7 {jj : Nat} (hd : pm_dec pg mi pc = some (.putfield jj)) (hl : pm_put pg mi jj = some (12, 7, .int)) (hc : wc.length = 147) (hI : MI f A) (kk : ∀ f' : Nat → Int32, f' = upf f 7 x → MI f' A → pmE pg X pg_tyl pg_cl d mi (pc + 3) ls st (md wc f' A) Q) : pmE pg X pg_tyl pg_cl d mi pc ls (.int x :: .ref 147 :: st) (md wc f A) Q :=
  pe_put hd hl (md_o hc) (Nat.le_of_ble_eq_true rfl) (pm_fit_int _) (md_f7 hc) (kk _ rfl (mi_put hI trivial))
theorem mz_put8 {jj : Nat} (hd : pm_dec pg mi pc = some (.putfield jj)) (hl : pm_put pg mi jj = some (12, 8, .boolean)) (hc : wc.length = 147) (hI : MI f A) (hfit : pm_fit .boolean (.int x) = true) (h1 : 0 ≤ x.toInt) (h2 : x.toInt ≤ 1) (kk : ∀ f' : Nat → Int32, f' = upf f 8 x → MI f' A → pmE pg X pg_tyl pg_cl d mi (pc + 3) ls st (md wc f' A) Q) : pmE pg X pg_tyl pg_cl d mi pc ls (.int x :: .ref 147 :: st) (md wc f A) Q :=
  pe_put hd hl (md_o hc) (Nat.le_of_ble_eq_true rfl) hfit (md_f8 hc) (kk _ rfl (mi_put hI ⟨h1, h2⟩))
theorem mz_put9 {jj : Nat} (hd : pm_dec pg mi pc = some (.putfield jj)) (hl : pm_put pg mi jj = some (12, 9, .int)) (hc : wc.length = 147) (hI : MI f A) (kk : ∀ f' : Nat → Int32, f' = upf f 9 x → MI f' A → pmE pg X pg_tyl pg_cl d mi (pc + 3) ls st (md wc f' A) Q) : pmE pg X pg_tyl pg_cl d mi pc ls (.int x :: .ref 147 :: st) (md wc f A) Q :=
  pe_put hd hl (md_o hc) (Nat.le_of_ble_eq_true rfl) (pm_fit_int _) (md_f9 hc) (kk _ rfl (mi_put hI trivial))
theorem mz_put14 {jj : Nat} (hd : pm_dec pg mi pc = some (.putfield jj)) (hl : pm_put pg mi jj = some (12, 14, .int)) (hc : wc.length = 147) (hI : MI f A) (h1 : 0 ≤ x.toInt) (h2 : x.toInt ≤ 30) (kk : ∀ f' : Nat → Int32, f' = upf f 14 x → MI f' A → pmE pg X pg_tyl pg_cl d mi (pc + 3) ls st (md wc f' A) Q) : pmE pg X pg_tyl pg_cl d mi pc ls (.int x :: .ref 147 :: st) (md wc f A) Q :=
  pe_put hd hl (md_o hc) (Nat.le_of_ble_eq_true rfl) (pm_fit_int _) (md_f14 hc) (kk _ rfl (mi_put hI ⟨h1, h2⟩))
theorem mz_put15 {jj : Nat} (hd : pm_dec pg mi pc = some (.putfield jj)) (hl : pm_put pg mi jj = some (12, 15, .int)) (hc : wc.length = 147) (hI : MI f A) (kk : ∀ f' : Nat → Int32, f' = upf f 15 x → MI f' A → pmE pg X pg_tyl pg_cl d mi (pc + 3) ls st (md wc f' A) Q) : pmE pg X pg_tyl pg_cl d mi pc ls (.int x :: .ref 147 :: st) (md wc f A) Q :=
  pe_put hd hl (md_o hc) (Nat.le_of_ble_eq_true rfl) (pm_fit_int _) (md_f15 hc) (kk _ rfl (mi_put hI trivial))
theorem mz_put16 {jj : Nat} (hd : pm_dec pg mi pc = some (.putfield jj)) (hl : pm_put pg mi jj = some (12, 16, .int)) (hc : wc.length = 147) (hI : MI f A) (kk : ∀ f' : Nat → Int32, f' = upf f 16 x → MI f' A → pmE pg X pg_tyl pg_cl d mi (pc + 3) ls st (md wc f' A) Q) : pmE pg X pg_tyl pg_cl d mi pc ls (.int x :: .ref 147 :: st) (md wc f A) Q :=
  pe_put hd hl (md_o hc) (Nat.le_of_ble_eq_true rfl) (pm_fit_int _) (md_f16 hc) (kk _ rfl (mi_put hI trivial))
theorem mz_put23 {jj : Nat} (hd : pm_dec pg mi pc = some (.putfield jj)) (hl : pm_put pg mi jj = some (12, 23, .int)) (hc : wc.length = 147) (hI : MI f A) (h1 : 0 ≤ x.toInt) (h2 : x.toInt ≤ 6) (kk : ∀ f' : Nat → Int32, f' = upf f 23 x → MI f' A → pmE pg X pg_tyl pg_cl d mi (pc + 3) ls st (md wc f' A) Q) : pmE pg X pg_tyl pg_cl d mi pc ls (.int x :: .ref 147 :: st) (md wc f A) Q :=
  pe_put hd hl (md_o hc) (Nat.le_of_ble_eq_true rfl) (pm_fit_int _) (md_f23 hc) (kk _ rfl (mi_put hI ⟨h1, h2⟩))
theorem mz_put24 {jj : Nat} (hd : pm_dec pg mi pc = some (.putfield jj)) (hl : pm_put pg mi jj = some (12, 24, .int)) (hc : wc.length = 147) (hI : MI f A) (h1 : 0 ≤ x.toInt) (h2 : x.toInt ≤ 6) (kk : ∀ f' : Nat → Int32, f' = upf f 24 x → MI f' A → pmE pg X pg_tyl pg_cl d mi (pc + 3) ls st (md wc f' A) Q) : pmE pg X pg_tyl pg_cl d mi pc ls (.int x :: .ref 147 :: st) (md wc f A) Q :=
  pe_put hd hl (md_o hc) (Nat.le_of_ble_eq_true rfl) (pm_fit_int _) (md_f24 hc) (kk _ rfl (mi_put hI ⟨h1, h2⟩))
theorem mz_put31 {jj : Nat} (hd : pm_dec pg mi pc = some (.putfield jj)) (hl : pm_put pg mi jj = some (12, 31, .int)) (hc : wc.length = 147) (hI : MI f A) (kk : ∀ f' : Nat → Int32, f' = upf f 31 x → MI f' A → pmE pg X pg_tyl pg_cl d mi (pc + 3) ls st (md wc f' A) Q) : pmE pg X pg_tyl pg_cl d mi pc ls (.int x :: .ref 147 :: st) (md wc f A) Q :=
  pe_put hd hl (md_o hc) (Nat.le_of_ble_eq_true rfl) (pm_fit_int _) (md_f31 hc) (kk _ rfl (mi_put hI trivial))
theorem mz_put32 {jj : Nat} (hd : pm_dec pg mi pc = some (.putfield jj)) (hl : pm_put pg mi jj = some (12, 32, .int)) (hc : wc.length = 147) (hI : MI f A) (kk : ∀ f' : Nat → Int32, f' = upf f 32 x → MI f' A → pmE pg X pg_tyl pg_cl d mi (pc + 3) ls st (md wc f' A) Q) : pmE pg X pg_tyl pg_cl d mi pc ls (.int x :: .ref 147 :: st) (md wc f A) Q :=
  pe_put hd hl (md_o hc) (Nat.le_of_ble_eq_true rfl) (pm_fit_int _) (md_f32 hc) (kk _ rfl (mi_put hI trivial))
theorem mz_put33 {jj : Nat} (hd : pm_dec pg mi pc = some (.putfield jj)) (hl : pm_put pg mi jj = some (12, 33, .int)) (hc : wc.length = 147) (hI : MI f A) (kk : ∀ f' : Nat → Int32, f' = upf f 33 x → MI f' A → pmE pg X pg_tyl pg_cl d mi (pc + 3) ls st (md wc f' A) Q) : pmE pg X pg_tyl pg_cl d mi pc ls (.int x :: .ref 147 :: st) (md wc f A) Q :=
  pe_put hd hl (md_o hc) (Nat.le_of_ble_eq_true rfl) (pm_fit_int _) (md_f33 hc) (kk _ rfl (mi_put hI trivial))
theorem mz_put35 {jj : Nat} (hd : pm_dec pg mi pc = some (.putfield jj)) (hl : pm_put pg mi jj = some (12, 35, .int)) (hc : wc.length = 147) (hI : MI f A) (kk : ∀ f' : Nat → Int32, f' = upf f 35 x → MI f' A → pmE pg X pg_tyl pg_cl d mi (pc + 3) ls st (md wc f' A) Q) : pmE pg X pg_tyl pg_cl d mi pc ls (.int x :: .ref 147 :: st) (md wc f A) Q :=
  pe_put hd hl (md_o hc) (Nat.le_of_ble_eq_true rfl) (pm_fit_int _) (md_f35 hc) (kk _ rfl (mi_put hI trivial))
end MZ
section CZ
variable {G : pm_G} {X : pm_X} {tyl : List FieldType} {cl : List vw_C} {d mi pc : Nat} {ls st : List Value} {w : pm_W} {Q Q1 : pm_R → Prop}
theorem pz_zero (h : pmE G X tyl cl d mi pc ls st w Q) : pmE G X tyl cl d mi pc ls st w (fun q => Q (q.1, q.2.1, 0 + q.2.2.1, 0 + q.2.2.2)) := by
  refine pmE.imp h (fun q hq => ?_)
  obtain ⟨r, w2, c, m⟩ := q
  show Q (r, w2, 0 + c, 0 + m)
  rw [Nat.zero_add, Nat.zero_add]
  exact hq
/-- a call by contract -/
theorem pz_callV {j mj d' : Nat} {vs st' : List Value} (hd : pm_dec G mi pc = some (.invokevirtual j)) (hc : pm_cll G X mi (.invokevirtual j) d st w = some (mj, d', vs, st')) (k1 : pmE G X tyl cl d' mj 0 (pm_ent (pm_max G mj) vs) [] w Q1) (k : ∀ (r : Option Value) (w' : pm_W) (c n : Nat), Q1 (r, w', c, n) → c = 0 ∧ n = 0 ∧ pmE G X tyl cl d mi (pc + 3) ls (pm_push r st') w' Q) : pmE G X tyl cl d mi pc ls st w Q := by
  refine pmE.call hd rfl hc k1 (fun r w' c n h => ?_)
  obtain ⟨rfl, rfl, h'⟩ := k r w' c n h
  exact pz_zero h'
theorem pz_callS {j mj d' : Nat} {vs st' : List Value} (hd : pm_dec G mi pc = some (.invokestatic j)) (hz : pm_nat G mi j = none) (hc : pm_cll G X mi (.invokestatic j) d st w = some (mj, d', vs, st')) (k1 : pmE G X tyl cl d' mj 0 (pm_ent (pm_max G mj) vs) [] w Q1) (k : ∀ (r : Option Value) (w' : pm_W) (c n : Nat), Q1 (r, w', c, n) → c = 0 ∧ n = 0 ∧ pmE G X tyl cl d mi (pc + 3) ls (pm_push r st') w' Q) : pmE G X tyl cl d mi pc ls st w Q := by
  refine pmE.call hd (by simp only [pm_one, hz]) hc k1 (fun r w' c n h => ?_)
  obtain ⟨rfl, rfl, h'⟩ := k r w' c n h
  exact pz_zero h'
/-- a call in line -/
theorem pi_V {j mj d' : Nat} {vs st' : List Value} (hd : pm_dec G mi pc = some (.invokevirtual j)) (hc : pm_cll G X mi (.invokevirtual j) d st w = some (mj, d', vs, st')) (k : pmE G X tyl cl d' mj 0 (pm_ent (pm_max G mj) vs) [] w (fun q => q.2.2.1 = 0 ∧ q.2.2.2 = 0 ∧ pmE G X tyl cl d mi (pc + 3) ls (pm_push q.1 st') q.2.1 Q)) : pmE G X tyl cl d mi pc ls st w Q := pz_callV hd hc k (fun _ _ _ _ h => h)
theorem pi_S {j mj d' : Nat} {vs st' : List Value} (hd : pm_dec G mi pc = some (.invokestatic j)) (hz : pm_nat G mi j = none) (hc : pm_cll G X mi (.invokestatic j) d st w = some (mj, d', vs, st')) (k : pmE G X tyl cl d' mj 0 (pm_ent (pm_max G mj) vs) [] w (fun q => q.2.2.1 = 0 ∧ q.2.2.2 = 0 ∧ pmE G X tyl cl d mi (pc + 3) ls (pm_push q.1 st') q.2.1 Q)) : pmE G X tyl cl d mi pc ls st w Q := pz_callS hd hz hc k (fun _ _ _ _ h => h)
end CZ
