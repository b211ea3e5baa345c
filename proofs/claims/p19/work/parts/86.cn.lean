/-! ===== how many of a row are not below 0 ===== -/
def cnn : List Int32 → Nat
  | [] => 0
  | x :: xs => (if 0 ≤ x.toInt then 1 else 0) + cnn xs
theorem cnn_le (xs : List Int32) : cnn xs ≤ xs.length := by
  induction xs with
  | nil => exact Nat.le_refl 0
  | cons x xs ih =>
    unfold cnn
    rw [List.length_cons]
    split <;> omega
theorem cnn_set {xs : List Int32} {i : Nat} {v : Int32} (hi : i < xs.length) (hn : (xs.getD i 0).toInt < 0) (hv : 0 ≤ v.toInt) : cnn (xs.set i v) = cnn xs + 1 := by
  induction xs generalizing i with
  | nil => exact absurd hi (Nat.not_lt_zero i)
  | cons x xs ih =>
    cases i with
    | zero =>
      have hn : x.toInt < 0 := hn
      show cnn (v :: xs) = _
      unfold cnn
      rw [if_pos hv, if_neg (by omega)]
      omega
    | succ i =>
      have hn : (xs.getD i 0).toInt < 0 := hn
      have h := ih (i := i) (by rw [List.length_cons] at hi; omega) hn
      show cnn (x :: xs.set i v) = _
      unfold cnn
      rw [h]
      omega
theorem cnn_full {xs : List Int32} (h : xs.length ≤ cnn xs) {i : Nat} (hi : i < xs.length) : 0 ≤ (xs.getD i 0).toInt := by
  induction xs generalizing i with
  | nil => exact absurd hi (Nat.not_lt_zero i)
  | cons x xs ih =>
    have hl := cnn_le xs
    rw [List.length_cons] at h hi
    unfold cnn at h
    cases i with
    | zero =>
      show 0 ≤ x.toInt
      by_cases hx : 0 ≤ x.toInt
      · exact hx
      · rw [if_neg hx] at h
        omega
    | succ i =>
      refine ih ?_ (i := i) (by omega)
      split at h <;> omega
theorem cnn_all {xs : List Int32} {m : Int} (h : ((cnn xs : Nat) : Int) = m) (hm : (xs.length : Int) ≤ m) {i : Nat} (hi : i < xs.length) : 0 ≤ (xs.getD i 0).toInt := cnn_full (by omega) hi
theorem cnn_lt {xs : List Int32} {i : Nat} (hi : i < xs.length) (hn : (xs.getD i 0).toInt < 0) : cnn xs < xs.length := by
  by_cases h : xs.length ≤ cnn xs
  · have := cnn_full h hi
    omega
  · omega
theorem cnn_rep {n : Nat} : cnn (List.replicate n (-1)) = 0 := by
  induction n with
  | zero => rfl
  | succ n ih =>
    rw [List.replicate_succ]
    unfold cnn
    rw [ih, if_neg (by decide +kernel)]
/-! ===== a way found by width: who is met, and by whom ===== -/
def NV (c : List Int32) (n : Int) : Prop := 0 ≤ (c.getD n.toNat 0).toInt
def CV (c : List Int32) : Prop := ∀ j : Int, 0 ≤ j → j < 12 → NV c j → NV c (c.getD j.toNat 0).toInt
def QV (c q : List Int32) (n : Int) : Prop := ∀ j : Int, 0 ≤ j → j < n → NV c (q.getD j.toNat 0).toInt
def FW (c q : List Int32) (n : Int) : Prop := ((cnn c : Nat) : Int) = n ∧ QV c q n ∧ CV c
def TY4 (c : List Int32) : Prop := ∀ i : Nat, -1 ≤ (c.getD i 0).toInt ∧ (c.getD i 0).toInt ≤ 11
def TY5 (q : List Int32) : Prop := ∀ i : Nat, 0 ≤ (q.getD i 0).toInt ∧ (q.getD i 0).toInt ≤ 11
theorem NV_set {c : List Int32} {k : Nat} {v : Int32} {n : Int} (hn : 0 ≤ n) (hk : (c.getD k 0).toInt < 0) (h : NV c n) : NV (c.set k v) n := by
  unfold NV at h ⊢
  rw [gz_ne (by intro e; rw [e] at hk; omega)]
  exact h
theorem FW_lt {c q : List Int32} {n : Int} {k : Nat} (h : FW c q n) (hl : c.length = 12) (hk : k < 12) (hn : (c.getD k 0).toInt < 0) : n ≤ 11 := by
  have h1 := cnn_lt (xs := c) (i := k) (by omega) hn
  have h2 := h.1
  omega
theorem FW_step {c q : List Int32} {n : Int} {k : Nat} {nd nx : Int32} (h : FW c q n) (hc : c.length = 12) (hq : q.length = 12) (tc : TY4 c) (tq : TY5 q) (h0 : 0 ≤ n) (hk : k < 12) (hn : (c.getD k 0).toInt < 0) (hnd : 0 ≤ nd.toInt) (hv : NV c nd.toInt) (ex : nx.toInt = k) {m : Nat} (em : (m : Int) = n) : FW (c.set k nd) (q.set m nx) (n + 1) := by
  have hlt := FW_lt h hc hk hn
  obtain ⟨h1, h2, h3⟩ := h
  refine ⟨?_, fun j j0 j1 => ?_, fun j j0 j1 hj => ?_⟩
  · rw [cnn_set (by omega) hn hnd]
    omega
  · by_cases e : m = j.toNat
    · rw [← e, gz_eq (by omega), ex]
      unfold NV
      rw [Int.toNat_natCast, gz_eq (by omega)]
      exact hnd
    · rw [gz_ne e]
      exact NV_set (tq j.toNat).1 hn (h2 j j0 (by omega))
  · by_cases e : k = j.toNat
    · rw [← e, gz_eq (by omega)]
      exact NV_set hnd hn hv
    · rw [gz_ne e]
      have hj2 : NV c j := by
        unfold NV at hj ⊢
        rw [gz_ne e] at hj
        exact hj
      exact NV_set hj2 hn (h3 j j0 j1 hj2)
theorem FW_first {q : List Int32} {a : Int32} (hq : q.length = 12) (h0 : 0 ≤ a.toInt) (h1 : a.toInt < 12) : FW ((List.replicate 12 (-1)).set a.toInt.toNat a) (q.set 0 a) 1 := by
  have hl : (List.replicate 12 (-1 : Int32)).length = 12 := List.length_replicate
  have hm : ((List.replicate 12 (-1 : Int32)).getD a.toInt.toNat 0).toInt < 0 := by
    rw [List.getD_eq_getElem?_getD, List.getElem?_replicate, if_pos (by omega)]
    decide +kernel
  have key : ∀ n : Int, 0 ≤ n → n < 12 → NV ((List.replicate 12 (-1)).set a.toInt.toNat a) n → n = a.toInt := by
    intro n n0 n1 h
    by_cases e : a.toInt.toNat = n.toNat
    · omega
    · unfold NV at h
      rw [gz_ne e, List.getD_eq_getElem?_getD, List.getElem?_replicate, if_pos (by omega)] at h
      exact absurd h (by decide +kernel)
  have hs : NV ((List.replicate 12 (-1)).set a.toInt.toNat a) a.toInt := by
    unfold NV
    rw [gz_eq (by omega)]
    exact h0
  refine ⟨?_, fun j j0 j1 => ?_, fun j j0 j1 hj => ?_⟩
  · rw [cnn_set (by omega) hm h0, cnn_rep]
    rfl
  · rw [show j.toNat = 0 by omega, gz_eq (by omega)]
    exact hs
  · have e := key j j0 j1 hj
    rw [e, gz_eq (by omega)]
    exact hs
theorem one81 {f : Nat → Int32} {A : Nat → List Int32} {R : Nat → Value} {n : Int} (h : NV (A 81) n) (hI : CI f A R) (j : Int) (h1 : n ≤ j) (h2 : j < n + 1) : 0 ≤ ((A 81).getD j.toNat 0).toInt ∧ ((A 81).getD j.toNat 0).toInt ≤ 11 := by
  have e : j = n := by omega
  rw [e]
  exact ⟨h, (ct_81 hI (i := n.toNat) rfl : -1 ≤ _ ∧ _ ≤ (11 : Int)).2⟩
