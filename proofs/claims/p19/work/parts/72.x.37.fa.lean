section
/-! ===== worlds: what a write leaves; frames; how a call's answer is used ===== -/
section FA
variable {w w1 w2 w3 : pm_W} {a b n m i : Nat} {x y : Int32} {xs : List Int32}
theorem gO_sA : gO (sA w a xs) b = gO w b := by
  unfold sA
  split
  · rename_i t ys hw
    unfold gO
    by_cases e : a = b
    · subst e
      rw [wk_eq hw, hw]
    · rw [wk_ne e]
  · rfl
theorem gV_sA : gV (sA w a xs) b n = gV w b n := by unfold gV; rw [gO_sA]
theorem gI_sA : gI (sA w a xs) b n = gI w b n := by unfold gI; rw [gV_sA]
theorem gR_sA : gR (sA w a xs) b n = gR w b n := by unfold gR; rw [gV_sA]
theorem gQ_sA : gQ (sA w a xs) b = gQ w b := by
  unfold sA
  split
  · rename_i t ys hw
    unfold gQ
    by_cases e : a = b
    · subst e
      rw [wk_eq hw, hw]
    · rw [wk_ne e]
  · rfl
theorem gA_sA_ne (h : a ≠ b) : gA (sA w a xs) b = gA w b := by
  unfold sA
  split
  · unfold gA
    rw [wk_ne h]
  · rfl
/-- an array stands there -/
def isA (w : pm_W) (a : Nat) : Prop := ∃ t ys, w[a]? = some (.inl (t, .inl ys))
theorem gA_sA (h : isA w a) : gA (sA w a xs) a = xs := by
  obtain ⟨t, ys, hw⟩ := h
  unfold sA gA
  rw [hw]
  show (match (w.set a (.inl (t, .inl xs)))[a]? with | some (.inl (_, .inl xs)) => xs | _ => []) = xs
  rw [wk_eq hw]
def sk_a (a : Nat) : Bool := match sk0[a]? with
  | some (.inl (_, .inl _)) => true
  | _ => false
theorem SK_isA (hS : SK w) (h : sk_a a = true) : isA w a := by
  unfold sk_a at h
  cases hw : w[a]? with
  | none =>
    have e : sk0[a]? = none := by rw [← show w.map sk_e = sk0 from hS, List.getElem?_map, hw]; rfl
    rw [e] at h
    cases h
  | some q =>
    rw [SK_at hS hw] at h
    cases q with
    | inr q => cases h
    | inl q =>
      obtain ⟨t, q⟩ := q
      rcases q with q | q | q
      · exact ⟨t, q, hw⟩
      · cases h
      · cases h
theorem aI_isA (h : aI w a x) : isA w a := by
  unfold aI iN gA at h
  split at h
  · rename_i t ys hw
    exact ⟨t, ys, hw⟩
  · simp only [List.length_nil] at h
    omega
theorem gA_aS (h : isA w a) : gA (aS w a x y) a = (gA w a).set x.toNatClampNeg y := gA_sA h
theorem gA_aS_ne (h : a ≠ b) : gA (aS w a x y) b = gA w b := gA_sA_ne h
theorem gI_aS : gI (aS w a x y) b n = gI w b n := gI_sA
theorem gR_aS : gR (aS w a x y) b n = gR w b n := gR_sA
/-! fields -/
theorem gA_set_o {ci : Nat} {fs gs : List Value} (hw : w[a]? = some (.inr (ci, fs))) : gA (w.set a (.inr (ci, gs))) b = gA w b := by
  unfold gA
  by_cases e : a = b
  · subst e
    rw [wk_eq hw, hw]
  · rw [wk_ne e]
theorem gQ_set_o {ci : Nat} {fs gs : List Value} (hw : w[a]? = some (.inr (ci, fs))) : gQ (w.set a (.inr (ci, gs))) b = gQ w b := by
  unfold gQ
  by_cases e : a = b
  · subst e
    rw [wk_eq hw, hw]
  · rw [wk_ne e]
theorem gA_sV {v : Value} : gA (sV w a n v) b = gA w b := by
  unfold sV
  split
  · rename_i ci fs hw
    exact gA_set_o hw
  · rfl
theorem gQ_sV {v : Value} : gQ (sV w a n v) b = gQ w b := by
  unfold sV
  split
  · rename_i ci fs hw
    exact gQ_set_o hw
  · rfl
theorem gV_set_ne {ci : Nat} {fs : List Value} {v : Value} (hw : w[a]? = some (.inr (ci, fs))) (h : ¬ (a = b ∧ n = m)) : gV (w.set a (.inr (ci, fs.set n v))) b m = gV w b m := by
  unfold gV gO
  by_cases e : a = b
  · subst e
    rw [wk_eq hw, hw]
    show (fs.set n v).getD m .null = fs.getD m .null
    rw [List.getD_eq_getElem?_getD, List.getD_eq_getElem?_getD, List.getElem?_set_ne (fun q => h ⟨rfl, q⟩)]
  · rw [wk_ne e]
theorem gV_sV_ne {v : Value} (h : ¬ (a = b ∧ n = m)) : gV (sV w a n v) b m = gV w b m := by
  unfold sV
  split
  · rename_i ci fs hw
    exact gV_set_ne hw h
  · rfl
theorem gV_sI_ne (h : ¬ (a = b ∧ n = m)) : gV (sI w a n x) b m = gV w b m := by
  unfold sI
  split
  · exact gV_sV_ne h
  · rfl
theorem gI_sI_ne (h : ¬ (a = b ∧ n = m)) : gI (sI w a n x) b m = gI w b m := by unfold gI; rw [gV_sI_ne h]
theorem gA_sI : gA (sI w a n x) b = gA w b := by
  unfold sI
  split
  · exact gA_sV
  · rfl
theorem gQ_sI : gQ (sI w a n x) b = gQ w b := by
  unfold sI
  split
  · exact gQ_sV
  · rfl
def isF (w : pm_W) (a n : Nat) : Prop := ∃ z, gV w a n = .int z
theorem gV_sI (h : isF w a n) : gV (sI w a n x) a n = .int x := by
  obtain ⟨z, hz⟩ := h
  obtain ⟨ci, fs, hw, hf⟩ := gV_inv hz (by intro q; cases q)
  unfold sI
  rw [hz]
  show gV (sV w a n (.int x)) a n = .int x
  unfold sV
  rw [hw]
  show gV (w.set a (.inr (ci, fs.set n (.int x)))) a n = .int x
  refine gV_of (wk_eq hw) ?_
  obtain ⟨hl, _⟩ := List.getElem?_eq_some_iff.mp hf
  exact List.getElem?_set_self hl
theorem gI_sI (h : isF w a n) : gI (sI w a n x) a n = x := by
  unfold gI
  rw [gV_sI h]
  rfl
theorem gR_sI : gR (sI w a n x) b m = gR w b m := by
  by_cases e : a = b ∧ n = m
  · obtain ⟨rfl, rfl⟩ := e
    unfold sI
    split
    · rename_i z hz
      have h1 : gR w a n = 0 := by unfold gR; rw [hz]; rfl
      have h2 : gV (sI w a n x) a n = .int x := gV_sI ⟨z, hz⟩
      unfold sI at h2
      rw [hz] at h2
      unfold gR at h1 ⊢
      rw [h1]
      have h2 : gV (sV w a n (.int x)) a n = .int x := h2
      rw [h2]
      rfl
    · rfl
  · unfold gR
    rw [gV_sI_ne e]
def sk_i (a n : Nat) : Bool := match sk0[a]? with
  | some (.inr (_, fs)) => Nat.beq (sk_k (fs.getD n .null)) 1
  | _ => false
theorem SK_isF (hS : SK w) (h : sk_i a n = true) : isF w a n := by
  unfold sk_i at h
  cases hw : w[a]? with
  | none =>
    have e : sk0[a]? = none := by rw [← show w.map sk_e = sk0 from hS, List.getElem?_map, hw]; rfl
    rw [e] at h
    cases h
  | some q =>
    rw [SK_at hS hw] at h
    cases q with
    | inl q =>
      obtain ⟨t, q⟩ := q
      rcases q with q | q | q <;> cases h
    | inr q =>
      obtain ⟨ci, fs⟩ := q
      have h : Nat.beq (sk_k ((sk_f ci 0 fs).getD n .null)) 1 = true := h
      have h := Nat.eq_of_beq_eq_true h
      rw [List.getD_eq_getElem?_getD, sk_fget] at h
      cases hv : fs[n]? with
      | none =>
        rw [hv] at h
        cases h
      | some v =>
        rw [hv] at h
        have h : sk_k (sk_v ci (0 + n) v) = 1 := h
        rw [sk_vk] at h
        refine ⟨vI v, ?_⟩
        rw [gV_of hw hv]
        cases v <;> first | rfl | cases h
end FA
/-! frames: no field but those of fs, no array but those of as -/
def FM (fs : List (Nat × Nat)) (as : List Nat) (w w' : pm_W) : Prop := (∀ a n, (a, n) ∉ fs → gV w' a n = gV w a n) ∧ (∀ a, a ∉ as → gA w' a = gA w a) ∧ (∀ a, gQ w' a = gQ w a) ∧ SK w'
section FM
variable {fs gs : List (Nat × Nat)} {as bs : List Nat} {w w1 w2 : pm_W} {a n : Nat} {x y : Int32}
theorem FM_refl (hS : SK w) : FM fs as w w := ⟨fun _ _ _ => rfl, fun _ _ => rfl, fun _ => rfl, hS⟩
theorem FM_trans (h1 : FM fs as w w1) (h2 : FM fs as w1 w2) : FM fs as w w2 := ⟨fun a n h => (h2.1 a n h).trans (h1.1 a n h), fun a h => (h2.2.1 a h).trans (h1.2.1 a h), fun a => (h2.2.2.1 a).trans (h1.2.2.1 a), h2.2.2.2⟩
theorem FM_mono (h : FM fs as w w1) (hf : ∀ p ∈ fs, p ∈ gs) (ha : ∀ p ∈ as, p ∈ bs) : FM gs bs w w1 := ⟨fun a n q => h.1 a n (fun z => q (hf _ z)), fun a q => h.2.1 a (fun z => q (ha _ z)), h.2.2.1, h.2.2.2⟩
theorem FM_sI (hS : SK w) (h : (a, n) ∈ fs) : FM fs as w (sI w a n x) := ⟨fun b m q => gV_sI_ne (fun e => q (by rw [← e.1, ← e.2]; exact h)), fun b _ => gA_sI, fun b => gQ_sI, SK_sI hS⟩
theorem FM_sA {xs : List Int32} (hl : xs.length = (gA w a).length) (hS : SK w) (h : a ∈ as) : FM fs as w (sA w a xs) := ⟨fun b m _ => gV_sA, fun b q => gA_sA_ne (fun e => q (e ▸ h)), fun b => gQ_sA, SK_sA hl hS⟩
theorem FM_aS (hS : SK w) (h : a ∈ as) : FM fs as w (aS w a x y) := FM_sA (List.length_set ..) hS h
theorem FM_i (h : FM fs as w w1) (q : (a, n) ∉ fs) : gI w1 a n = gI w a n := by unfold gI; rw [h.1 a n q]
theorem FM_r (h : FM fs as w w1) (q : (a, n) ∉ fs) : gR w1 a n = gR w a n := by unfold gR; rw [h.1 a n q]
theorem FM_a (h : FM fs as w w1) (q : a ∉ as) : gA w1 a = gA w a := h.2.1 a q
end FM
/-! a call's answer, put into what follows -/
section USE
variable {X : pm_X} {k mi : Nat} {ls : List Value} {w : pm_W}
theorem use_v {C : pm_W → Prop} (h : ∃ (r1 : Option Value) (w2 : pm_W), PS X k mi 0 ls [] w r1 w2 ∧ (r1 = none → SK w2 → C w2)) {D : pm_W → Prop} (F : ∀ r1 w2, PS X k mi 0 ls [] w r1 w2 → r1 = none ∧ SK w2 ∧ D w2) : ∃ w2, SK w2 ∧ D w2 ∧ C w2 := by
  obtain ⟨r1, w2, h1, h2⟩ := h
  obtain ⟨e, s, q⟩ := F _ _ h1
  exact ⟨w2, s, q, h2 e s⟩
/-- a call that answers a number that is known, and changes nothing -/
theorem use_p {C : Int32 → pm_W → Prop} {x : Int32} (hS : SK w) (h : ∃ (r1 : Option Value) (w2 : pm_W), PS X k mi 0 ls [] w r1 w2 ∧ (∀ x3 : Int32, r1 = some (.int x3) → SK w2 → C x3 w2)) (F : ∀ r1 w2, PS X k mi 0 ls [] w r1 w2 → r1 = some (.int x) ∧ w2 = w) : C x w := by
  obtain ⟨r1, w2, h1, h2⟩ := h
  obtain ⟨e, q⟩ := F _ _ h1
  subst q
  exact h2 x e hS
end USE
end
section
/-! ===== tokens: what both sides read ===== -/
def b2i (b : Bool) : Int32 := cond b 1 0
def isBl (c : Int32) : Bool := decide (c = 10) || decide (c = 32)
def isLt (c : Int32) : Bool := decide (97 ≤ c.toInt) && decide (c.toInt ≤ 122)
def isDg (c : Int32) : Bool := decide (48 ≤ c.toInt) && decide (c.toInt ≤ 57)
/-- from i on, m at most, as long as P holds -/
def spn (P : Int32 → Bool) (bs : Nat → Int32) : Nat → Nat → Nat
  | 0, i => i
  | m + 1, i => cond (P (bs i)) (spn P bs m (i + 1)) i
theorem spn_le {P : Int32 → Bool} {bs : Nat → Int32} : ∀ (m i : Nat), i ≤ spn P bs m i ∧ spn P bs m i ≤ i + m
  | 0, i => ⟨Nat.le_refl _, Nat.le_refl _⟩
  | m + 1, i => by
    have q := spn_le (P := P) (bs := bs) m (i + 1)
    unfold spn
    cases P (bs i) with
    | true => exact ⟨by show i ≤ spn P bs m (i + 1); omega, by show spn P bs m (i + 1) ≤ i + (m + 1); omega⟩
    | false => exact ⟨Nat.le_refl _, by show i ≤ i + (m + 1); omega⟩
theorem spn_t {P : Int32 → Bool} {bs : Nat → Int32} {n i : Nat} (h : i < n) (hp : P (bs i) = true) : spn P bs (n - i) i = spn P bs (n - (i + 1)) (i + 1) := by
  obtain ⟨m, hm⟩ : ∃ m, n - i = m + 1 := ⟨n - i - 1, by omega⟩
  rw [hm, show n - (i + 1) = m by omega]
  show cond (P (bs i)) _ _ = _
  rw [hp]
  rfl
theorem spn_f {P : Int32 → Bool} {bs : Nat → Int32} {n i : Nat} (hp : P (bs i) = false) : spn P bs (n - i) i = i := by
  cases n - i with
  | zero => rfl
  | succ m =>
    show cond (P (bs i)) _ _ = _
    rw [hp]
    rfl
theorem spn_n {P : Int32 → Bool} {bs : Nat → Int32} {n i : Nat} (h : n ≤ i) : spn P bs (n - i) i = i := by
  rw [show n - i = 0 by omega]
  rfl
theorem spn_congr {P : Int32 → Bool} {bs cs : Nat → Int32} : ∀ (m i : Nat), (∀ j, i ≤ j → j < i + m → P (bs j) = P (cs j)) → spn P bs m i = spn P cs m i
  | 0, i, h => rfl
  | m + 1, i, h => by
    unfold spn
    rw [h i (Nat.le_refl _) (by omega), spn_congr m (i + 1) (fun j h1 h2 => h j (by omega) (by omega))]
def tkS (bs : Nat → Int32) (n i : Nat) : Nat := spn isBl bs (n - i) i
def tkE (P : Int32 → Bool) (bs : Nat → Int32) (n s : Nat) : Nat := spn P bs (n - s) s
/-- a token's kind: 0 the end, 1 letters, 2 a number, 3 a semicolon, 4 none -/
def tkK (bs : Nat → Int32) (n i : Nat) : Nat := if n ≤ tkS bs n i then 0 else if isLt (bs (tkS bs n i)) = true then 1 else if isDg (bs (tkS bs n i)) = true then (if tkE isDg bs n (tkS bs n i) ≤ tkS bs n i + 2 then 2 else 4) else if bs (tkS bs n i) = 59 then 3 else 4
def tkN (bs : Nat → Int32) (n i : Nat) : Nat := if n ≤ tkS bs n i then tkS bs n i else if isLt (bs (tkS bs n i)) = true then tkE isLt bs n (tkS bs n i) else if isDg (bs (tkS bs n i)) = true then tkE isDg bs n (tkS bs n i) else tkS bs n i + 1
/-- the number that t digits from s on make, two at most -/
def dgV (bs : Nat → Int32) (s t : Nat) : Int := if t = 0 then 0 else if t = 1 then (bs s).toInt - 48 else 10 * ((bs s).toInt - 48) + (bs (s + 1)).toInt - 48
def tkV (bs : Nat → Int32) (n i : Nat) : Int := dgV bs (tkS bs n i) (tkE isDg bs n (tkS bs n i) - tkS bs n i)
section FB
variable {X : pm_X} {k : Nat} {w w' : pm_W} {r : Option Value} {p : Int32}
theorem z32 : (0 : Int32).toInt = 0 := by decide +kernel
theorem o32 : (1 : Int32).toInt = 1 := by decide +kernel
theorem zi_inc {x : Int32} {n : Int} (h : x.toInt < n) (hn : n ≤ 2147483647) : (x + 1).toInt = x.toInt + 1 := zi_add rfl o32 (by have := zi_lo x; omega) (by omega)
/-- the class's bytes -/
def cb (w : pm_W) (i : Nat) : Int32 := (gA w (gR w 23 3)).getD i 0
def cn (w : pm_W) : Nat := (gI w 23 4).toInt.toNat
def cat (w : pm_W) : Nat := (gI w 23 5).toInt.toNat
def bAt (w : pm_W) (p : Int32) : Int32 := if p < 0 then -1 else if gI w 23 4 ≤ p then -1 else aG w (gR w 23 3) p
theorem F24 (hS : SK w) (h : PS X k 24 0 [.ref 23, .int p] [] w r w') : r = some (.int (bAt w p)) ∧ w' = w := by
  cases k with
  | zero => exact (PS_0 h).elim
  | succ k =>
    have h := U24_0 hS h
    unfold bAt
    by_cases c1 : p < 0
    · rw [if_pos c1] at h ⊢
      exact h
    · rw [if_neg c1] at h ⊢
      by_cases c2 : gI w 23 4 ≤ p
      · rw [if_pos c2] at h ⊢
        exact h
      · rw [if_neg c2] at h ⊢
        exact h.2
theorem bAt_in (h0 : 0 ≤ p.toInt) (h1 : p.toInt < (gI w 23 4).toInt) : bAt w p = cb w p.toInt.toNat := by
  unfold bAt
  rw [if_neg (by rw [Int32.lt_iff_toInt_lt, z32]; omega), if_neg (by rw [Int32.le_iff_toInt_le]; omega)]
  rfl
theorem F25 (hS : SK w) (h : PS X k 25 0 [.int p] [] w r w') : r = some (.int (b2i (isBl p))) ∧ w' = w := by
  cases k with
  | zero => exact (PS_0 h).elim
  | succ k =>
    have h := U25_0 hS h
    unfold isBl
    by_cases c1 : p = 10
    · rw [if_pos c1] at h
      rw [decide_eq_true c1]
      exact h
    · rw [if_neg c1] at h
      rw [decide_eq_false c1]
      by_cases c2 : p = 32
      · rw [if_pos c2] at h
        rw [decide_eq_true c2]
        exact h
      · rw [if_neg c2] at h
        rw [decide_eq_false c2]
        exact h
theorem F26 (hS : SK w) (h : PS X k 26 0 [.int p] [] w r w') : r = some (.int (b2i (isLt p))) ∧ w' = w := by
  cases k with
  | zero => exact (PS_0 h).elim
  | succ k =>
    have h := U26_0 hS h
    have e1 : (97 : Int32).toInt = 97 := by decide +kernel
    have e2 : (122 : Int32).toInt = 122 := by decide +kernel
    unfold isLt
    by_cases c1 : p < 97
    · rw [if_pos c1] at h
      rw [Int32.lt_iff_toInt_lt, e1] at c1
      rw [decide_eq_false (show ¬ 97 ≤ p.toInt by omega)]
      exact h
    · rw [if_neg c1] at h
      rw [Int32.lt_iff_toInt_lt, e1] at c1
      rw [decide_eq_true (show 97 ≤ p.toInt by omega)]
      by_cases c2 : 122 < p
      · rw [if_pos c2] at h
        rw [Int32.lt_iff_toInt_lt, e2] at c2
        rw [decide_eq_false (show ¬ p.toInt ≤ 122 by omega)]
        exact h
      · rw [if_neg c2] at h
        rw [Int32.lt_iff_toInt_lt, e2] at c2
        rw [decide_eq_true (show p.toInt ≤ 122 by omega)]
        exact h
theorem F27 (hS : SK w) (h : PS X k 27 0 [.int p] [] w r w') : r = some (.int (b2i (isDg p))) ∧ w' = w := by
  cases k with
  | zero => exact (PS_0 h).elim
  | succ k =>
    have h := U27_0 hS h
    have e1 : (48 : Int32).toInt = 48 := by decide +kernel
    have e2 : (57 : Int32).toInt = 57 := by decide +kernel
    unfold isDg
    by_cases c1 : p < 48
    · rw [if_pos c1] at h
      rw [Int32.lt_iff_toInt_lt, e1] at c1
      rw [decide_eq_false (show ¬ 48 ≤ p.toInt by omega)]
      exact h
    · rw [if_neg c1] at h
      rw [Int32.lt_iff_toInt_lt, e1] at c1
      rw [decide_eq_true (show 48 ≤ p.toInt by omega)]
      by_cases c2 : 57 < p
      · rw [if_pos c2] at h
        rw [Int32.lt_iff_toInt_lt, e2] at c2
        rw [decide_eq_false (show ¬ p.toInt ≤ 57 by omega)]
        exact h
      · rw [if_neg c2] at h
        rw [Int32.lt_iff_toInt_lt, e2] at c2
        rw [decide_eq_true (show p.toInt ≤ 57 by omega)]
        exact h
theorem b2i_0 {b : Bool} : b2i b = 0 ↔ b = false := by cases b <;> decide +kernel
/-- one step of at -/
theorem at_step {w1 : pm_W} (hS : SK w) (e : w1 = sI w 23 5 (gI w 23 5 + 1)) (h0 : 0 ≤ (gI w 23 5).toInt) (h1 : (gI w 23 5).toInt < (gI w 23 4).toInt) : SK w1 ∧ FM [(23, 5)] [] w w1 ∧ (gI w1 23 5).toInt = (gI w 23 5).toInt + 1 ∧ gI w1 23 4 = gI w 23 4 ∧ cb w1 = cb w := by
  subst e
  refine ⟨SK_sI hS, FM_sI hS (by decide), ?_, gI_sI_ne (by decide), ?_⟩
  · rw [gI_sI (SK_isF hS (by decide +kernel))]
    exact zi_inc h1 (zi_hi _)
  · funext i
    unfold cb
    rw [gR_sI, gA_sI]
theorem F23_0 : ∀ (k : Nat) (w : pm_W), SK w → 0 ≤ (gI w 23 5).toInt → PS X k 23 0 [.ref 23, pm_dead] [] w r w' → ∃ (k' : Nat) (w1 : pm_W), FM [(23, 5)] [] w w1 ∧ (gI w1 23 5).toInt = (tkS (cb w) (cn w) (cat w) : Nat) ∧ PS X k' 23 38 [.ref 23, pm_dead] [] w1 r w' := by
  intro k
  induction k with
  | zero => intro w hS h0 h; exact (PS_0 h).elim
  | succ k ih =>
    intro w hS h0 h
    have h := U23_0 hS h
    by_cases c1 : gI w 23 4 ≤ gI w 23 5
    · rw [if_pos c1] at h
      rw [Int32.le_iff_toInt_le] at c1
      refine ⟨k, w, FM_refl hS, ?_, h⟩
      unfold tkS
      rw [spn_n (by unfold cn cat; omega)]
      unfold cat
      omega
    · rw [if_neg c1] at h
      rw [Int32.le_iff_toInt_le] at c1
      have h := use_p hS h (fun _ _ q => F24 hS q)
      have h := use_p hS h (fun _ _ q => F25 hS q)
      rw [bAt_in h0 (by omega)] at h
      by_cases c2 : b2i (isBl (cb w (gI w 23 5).toInt.toNat)) = 0
      · rw [if_pos c2] at h
        rw [b2i_0] at c2
        refine ⟨k, w, FM_refl hS, ?_, h⟩
        unfold tkS
        rw [spn_f (by unfold cat; exact c2)]
        unfold cat
        omega
      · rw [if_neg c2] at h
        rw [b2i_0, Bool.not_eq_false] at c2
        obtain ⟨w1, e⟩ : ∃ w1, w1 = sI w 23 5 (gI w 23 5 + 1) := ⟨_, rfl⟩
        have h := h w1 e
        obtain ⟨hS1, f1, a1, n1, b1⟩ := at_step hS e h0 (by omega)
        obtain ⟨k', w2, f2, a2, h2⟩ := ih w1 hS1 (by omega) h
        refine ⟨k', w2, FM_trans f1 f2, ?_, h2⟩
        rw [a2, b1]
        have ec : cat w1 = cat w + 1 := by unfold cat; omega
        have en : cn w1 = cn w := by unfold cn; rw [n1]
        unfold tkS
        rw [ec, en, spn_t (n := cn w) (i := cat w) (by unfold cn cat; omega) c2]
theorem F23_86 : ∀ (k : Nat) (w : pm_W) (x : Int32), SK w → 0 ≤ (gI w 23 5).toInt → PS X k 23 86 [.ref 23, .int x] [] w r w' → r = none ∧ FM [(23, 5)] [] w w' ∧ (gI w' 23 5).toInt = (tkE isLt (cb w) (cn w) (cat w) : Nat) := by
  intro k
  induction k with
  | zero => intro w x hS h0 h; exact (PS_0 h).elim
  | succ k ih =>
    intro w x hS h0 h
    have h := U23_86 hS h
    have fin : ∀ (j : Nat), PS X j 23 163 [.ref 23, .int x] [] w r w' → r = none ∧ w' = w := by
      intro j q
      cases j with
      | zero => exact (PS_0 q).elim
      | succ j => exact U23_163 hS q
    by_cases c1 : gI w 23 4 ≤ gI w 23 5
    · rw [if_pos c1] at h
      rw [Int32.le_iff_toInt_le] at c1
      obtain ⟨e1, e2⟩ := fin _ h
      subst e2
      refine ⟨e1, FM_refl hS, ?_⟩
      unfold tkE
      rw [spn_n (by unfold cn cat; omega)]
      unfold cat
      omega
    · rw [if_neg c1] at h
      rw [Int32.le_iff_toInt_le] at c1
      have h := use_p hS h (fun _ _ q => F24 hS q)
      have h := use_p hS h (fun _ _ q => F26 hS q)
      rw [bAt_in h0 (by omega)] at h
      by_cases c2 : b2i (isLt (cb w (gI w 23 5).toInt.toNat)) = 0
      · rw [if_pos c2] at h
        rw [b2i_0] at c2
        obtain ⟨e1, e2⟩ := fin _ h
        subst e2
        refine ⟨e1, FM_refl hS, ?_⟩
        unfold tkE
        rw [spn_f (by unfold cat; exact c2)]
        unfold cat
        omega
      · rw [if_neg c2] at h
        rw [b2i_0, Bool.not_eq_false] at c2
        obtain ⟨w1, e⟩ : ∃ w1, w1 = sI w 23 5 (gI w 23 5 + 1) := ⟨_, rfl⟩
        have h := h w1 e
        obtain ⟨hS1, f1, a1, n1, b1⟩ := at_step hS e h0 (by omega)
        obtain ⟨e1, f2, a2⟩ := ih w1 x hS1 (by omega) h
        refine ⟨e1, FM_trans f1 f2, ?_⟩
        rw [a2, b1]
        have ec : cat w1 = cat w + 1 := by unfold cat; omega
        have en : cn w1 = cn w := by unfold cn; rw [n1]
        unfold tkE
        rw [ec, en, spn_t (n := cn w) (i := cat w) (by unfold cn cat; omega) c2]
end FB
end
section
/-! ===== the class's reader: a token ===== -/
section FC
variable {X : pm_X} {k : Nat} {w w' : pm_W} {r : Option Value} {p : Int32}
theorem cn_FM {fs : List (Nat × Nat)} {as : List Nat} {w1 : pm_W} (h : FM fs as w w1) (q : (23, 4) ∉ fs) : cn w1 = cn w := by unfold cn; rw [FM_i h q]
theorem cb_FM {fs : List (Nat × Nat)} {as : List Nat} {w1 : pm_W} (h : FM fs as w w1) (q : (23, 3) ∉ fs) (qa : gR w 23 3 ∉ as) : cb w1 = cb w := by
  funext i
  unfold cb
  rw [FM_r h q, FM_a h qa]
theorem isDg_b {c : Int32} (h : isDg c = true) : 48 ≤ c.toInt ∧ c.toInt ≤ 57 := by
  unfold isDg at h
  rw [Bool.and_eq_true] at h
  exact ⟨of_decide_eq_true h.1, of_decide_eq_true h.2⟩
theorem isLt_b {c : Int32} (h : isLt c = true) : 97 ≤ c.toInt ∧ c.toInt ≤ 122 := by
  unfold isLt at h
  rw [Bool.and_eq_true] at h
  exact ⟨of_decide_eq_true h.1, of_decide_eq_true h.2⟩
theorem two32 : (2 : Int32).toInt = 2 := by decide +kernel
/-- digits: s the place, t how many are behind -/
theorem F28_5 : ∀ (k : Nat) (w : pm_W) (s t : Nat), SK w → (gI w 23 7).toInt = s → (gI w 23 5).toInt = (s + t : Nat) → (gI w 23 8).toInt = dgV (cb w) s t → (∀ j, j < t → isDg (cb w (s + j)) = true) → PS X k 28 5 [.ref 23] [] w r w' → r = none ∧ FM [(23, 5), (23, 6), (23, 8)] [] w w' ∧ (gI w' 23 5).toInt = (tkE isDg (cb w) (cn w) (s + t) : Nat) ∧ gI w' 23 6 = (if tkE isDg (cb w) (cn w) (s + t) ≤ s + 2 then 2 else 4) ∧ (gI w' 23 8).toInt = dgV (cb w) s (tkE isDg (cb w) (cn w) (s + t) - s) := by
  intro k
  induction k with
  | zero => intro w s t hS hp ha hv hd h; exact (PS_0 h).elim
  | succ k ih =>
    intro w s t hS hp ha hv hd h
    have h := U28_5 hS h
    have hlo := zi_hi (gI w 23 5)
    have hsub : (gI w 23 5 - gI w 23 7).toInt = t := by
      rw [zi_sub rfl rfl (by omega) (by omega)]
      omega
    -- the end of the digits
    have fin : tkE isDg (cb w) (cn w) (s + t) = s + t → (if (gI w 23 5) - (gI w 23 7) ≤ 2 then (∀ w1 : pm_W, w1 = sI w 23 6 2 → (r = none ∧ w' = w1)) else (∀ w2 : pm_W, w2 = sI w 23 6 4 → (r = none ∧ w' = w2))) → r = none ∧ FM [(23, 5), (23, 6), (23, 8)] [] w w' ∧ (gI w' 23 5).toInt = (tkE isDg (cb w) (cn w) (s + t) : Nat) ∧ gI w' 23 6 = (if tkE isDg (cb w) (cn w) (s + t) ≤ s + 2 then 2 else 4) ∧ (gI w' 23 8).toInt = dgV (cb w) s (tkE isDg (cb w) (cn w) (s + t) - s) := by
      intro ee q
      rw [ee, show s + t - s = t by omega]
      by_cases c : (gI w 23 5) - (gI w 23 7) ≤ 2
      · rw [if_pos c] at q
        obtain ⟨e1, e2⟩ := q _ rfl
        rw [Int32.le_iff_toInt_le, hsub, two32] at c
        subst e2
        refine ⟨e1, FM_sI hS (by decide), ?_, ?_, ?_⟩
        · rw [gI_sI_ne (by decide)]; exact ha
        · rw [gI_sI (SK_isF hS (by decide +kernel)), if_pos (by omega)]
        · rw [gI_sI_ne (by decide)]; exact hv
      · rw [if_neg c] at q
        obtain ⟨e1, e2⟩ := q _ rfl
        rw [Int32.le_iff_toInt_le, hsub, two32] at c
        subst e2
        refine ⟨e1, FM_sI hS (by decide), ?_, ?_, ?_⟩
        · rw [gI_sI_ne (by decide)]; exact ha
        · rw [gI_sI (SK_isF hS (by decide +kernel)), if_neg (by omega)]
        · rw [gI_sI_ne (by decide)]; exact hv
    have ecat : (gI w 23 5).toInt.toNat = s + t := by omega
    by_cases c1 : gI w 23 4 ≤ gI w 23 5
    · rw [if_pos c1] at h
      rw [Int32.le_iff_toInt_le] at c1
      exact fin (spn_n (by unfold cn; omega)) h
    · rw [if_neg c1] at h
      rw [Int32.le_iff_toInt_le] at c1
      have h := use_p hS h (fun _ _ q => F24 hS q)
      have h := use_p hS h (fun _ _ q => F27 hS q)
      rw [bAt_in (by omega) (by omega), ecat] at h
      by_cases c2 : b2i (isDg (cb w (s + t))) = 0
      · rw [if_pos c2] at h
        rw [b2i_0] at c2
        exact fin (spn_f c2) h
      · rw [if_neg c2] at h
        rw [b2i_0, Bool.not_eq_false] at c2
        have hg := isDg_b c2
        have est : tkE isDg (cb w) (cn w) (s + t) = tkE isDg (cb w) (cn w) (s + (t + 1)) := spn_t (n := cn w) (i := s + t) (by unfold cn; omega) c2
        -- what a step leaves
        have step : ∀ w12 w11 : pm_W, ∀ v : Int32, w11 = sI w 23 8 v → w12 = sI w11 23 5 ((gI w11 23 5) + 1) → v.toInt = dgV (cb w) s (t + 1) → PS X k 28 5 [.ref 23] [] w12 r w' → r = none ∧ FM [(23, 5), (23, 6), (23, 8)] [] w w' ∧ (gI w' 23 5).toInt = (tkE isDg (cb w) (cn w) (s + t) : Nat) ∧ gI w' 23 6 = (if tkE isDg (cb w) (cn w) (s + t) ≤ s + 2 then 2 else 4) ∧ (gI w' 23 8).toInt = dgV (cb w) s (tkE isDg (cb w) (cn w) (s + t) - s) := by
          intro w12 w11 v e11 e12 ev q
          have hS11 : SK w11 := by rw [e11]; exact SK_sI hS
          have f11 : FM [(23, 5), (23, 6), (23, 8)] [] w w11 := by rw [e11]; exact FM_sI hS (by decide)
          have f12 : FM [(23, 5), (23, 6), (23, 8)] [] w11 w12 := by rw [e12]; exact FM_sI hS11 (by decide)
          have a11 : gI w11 23 5 = gI w 23 5 := by rw [e11]; exact gI_sI_ne (by decide)
          have v12 : (gI w12 23 8).toInt = dgV (cb w) s (t + 1) := by
            rw [e12, gI_sI_ne (by decide), e11, gI_sI (SK_isF hS (by decide +kernel))]
            exact ev
          have a12 : (gI w12 23 5).toInt = (s + (t + 1) : Nat) := by
            rw [e12, gI_sI (SK_isF hS11 (by decide +kernel)), a11, zi_inc (n := (gI w 23 4).toInt) (by omega) (zi_hi _)]
            omega
          have ff := FM_trans f11 f12
          have b12 : cb w12 = cb w := cb_FM ff (by decide) (by intro z; cases z)
          have n12 : cn w12 = cn w := cn_FM ff (by decide)
          have p12 : (gI w12 23 7).toInt = s := by rw [FM_i ff (by decide)]; exact hp
          obtain ⟨g1, g2, g3, g4, g5⟩ := ih w12 s (t + 1) ff.2.2.2 p12 a12 (by rw [b12]; exact v12) (by
            intro j hj
            rw [b12]
            by_cases e : j = t
            · rw [e]; exact c2
            · exact hd j (by omega)) q
          rw [b12, n12] at g3 g4 g5
          rw [est]
          exact ⟨g1, FM_trans ff g2, g3, g4, g5⟩
        by_cases c3 : 2 ≤ (gI w 23 5) - (gI w 23 7)
        · rw [if_pos c3] at h
          rw [Int32.le_iff_toInt_le, hsub, two32] at c3
          refine step _ _ _ rfl rfl ?_ (h _ rfl _ rfl)
          rw [hv]
          unfold dgV
          rw [if_neg (by omega), if_neg (by omega), if_neg (by omega), if_neg (by omega)]
        · rw [if_neg c3] at h
          rw [Int32.le_iff_toInt_le, hsub, two32] at c3
          have h := use_p hS h (fun _ _ q => F24 hS q)
          rw [bAt_in (by omega) (by omega), ecat] at h
          refine step _ _ _ rfl rfl ?_ (h _ rfl _ rfl)
          have t10 : (10 : Int32).toInt = 10 := by decide +kernel
          have t48 : (48 : Int32).toInt = 48 := by decide +kernel
          have hvb : (gI w 23 8).toInt = (if t = 0 then 0 else (cb w s).toInt - 48) := by
            rw [hv]
            unfold dgV
            by_cases e : t = 0
            · rw [if_pos e, if_pos e]
            · rw [if_neg e, if_neg e, if_pos (by omega)]
          have hb0 : 0 ≤ (gI w 23 8).toInt ∧ (gI w 23 8).toInt ≤ 9 := by
            rw [hvb]
            by_cases e : t = 0
            · rw [if_pos e]; omega
            · rw [if_neg e]
              have := isDg_b (hd 0 (by omega))
              rw [Nat.add_zero] at this
              omega
          rw [zi_sub (zi_add (zi_mul rfl t10 (by omega) (by omega)) rfl (by omega) (by omega)) t48 (by omega) (by omega), hvb]
          unfold dgV
          by_cases e : t = 0
          · subst e
            rw [if_pos rfl, if_neg (by omega), if_pos rfl, Nat.add_zero]
            omega
          · have e1 : t = 1 := by omega
            subst e1
            rw [if_neg (by omega), if_neg (by omega), if_neg (by omega)]
            omega
/-- the token behind: kind, place, end, number -/
def TKc (w w' : pm_W) : Prop := gI w' 23 6 = Int32.ofNat (tkK (cb w) (cn w) (cat w)) ∧ (gI w' 23 7).toInt = (tkS (cb w) (cn w) (cat w) : Nat) ∧ (gI w' 23 5).toInt = (tkN (cb w) (cn w) (cat w) : Nat) ∧ (tkK (cb w) (cn w) (cat w) = 2 → (gI w' 23 8).toInt = tkV (cb w) (cn w) (cat w))
theorem F23 (hS : SK w) (h0 : 0 ≤ (gI w 23 5).toInt) (h : PS X k 23 0 [.ref 23, pm_dead] [] w r w') : r = none ∧ FM [(23, 5), (23, 6), (23, 7), (23, 8)] [] w w' ∧ TKc w w' := by
  obtain ⟨k1, w1, f1, a1, h⟩ := F23_0 _ _ hS h0 h
  cases k1 with
  | zero => exact (PS_0 h).elim
  | succ k1 =>
    have hS1 := f1.2.2.2
    have h := U23_38 hS1 h _ rfl
    obtain ⟨w2, e2⟩ : ∃ w2, w2 = sI w1 23 7 (gI w1 23 5) := ⟨_, rfl⟩
    rw [← e2] at h
    have hS2 : SK w2 := by rw [e2]; exact SK_sI hS1
    have f2 : FM [(23, 5), (23, 6), (23, 7), (23, 8)] [] w w2 := FM_trans (FM_mono f1 (by decide) (by decide)) (by rw [e2]; exact FM_sI hS1 (by decide))
    have a2 : gI w2 23 5 = gI w1 23 5 := by rw [e2]; exact gI_sI_ne (by decide)
    have p2 : gI w2 23 7 = gI w1 23 5 := by rw [e2]; exact gI_sI (SK_isF hS1 (by decide +kernel))
    have n2 : cn w2 = cn w := cn_FM f2 (by decide)
    have n2' : gI w2 23 4 = gI w 23 4 := FM_i f2 (by decide)
    have b2 : cb w2 = cb w := cb_FM f2 (by decide) (by intro z; cases z)
    obtain ⟨s, es⟩ : ∃ s, s = tkS (cb w) (cn w) (cat w) := ⟨_, rfl⟩
    rw [← es] at a1
    have fin : ∀ (w5 : pm_W) (x : Int32) (j : Nat), SK w5 → PS X j 23 163 [.ref 23, .int x] [] w5 r w' → r = none ∧ w' = w5 := by
      intro w5 x j hS5 q
      cases j with
      | zero => exact (PS_0 q).elim
      | succ j => exact U23_163 hS5 q
    unfold TKc
    rw [← es]
    unfold tkK tkN tkV
    rw [← es]
    have h := use_p hS2 h (fun _ _ q => F24 hS2 q)
    by_cases c1 : gI w2 23 5 < gI w2 23 4
    · rw [if_pos c1] at h
      rw [Int32.lt_iff_toInt_lt, a2, n2', a1] at c1
      rw [bAt_in (by rw [a2, a1]; omega) (by rw [a2, a1, n2']; exact c1), b2, a2, a1, show ((s : Int)).toNat = s from Int.toNat_natCast s] at h
      rw [if_neg (show ¬ cn w ≤ s by unfold cn; omega), if_neg (show ¬ cn w ≤ s by unfold cn; omega)]
      have h := use_p hS2 h (fun _ _ q => F26 hS2 q)
      by_cases c2 : b2i (isLt (cb w s)) = 0
      · rw [if_pos c2] at h
        rw [b2i_0] at c2
        rw [c2]
        simp only [Bool.false_eq_true, if_false]
        have h := use_p hS2 h (fun _ _ q => F27 hS2 q)
        by_cases c3 : b2i (isDg (cb w s)) = 0
        · rw [if_pos c3] at h
          rw [b2i_0] at c3
          rw [c3]
          simp only [Bool.false_eq_true, if_false]
          have one : ∀ (w3 w4 : pm_W) (v : Int32), w3 = sI w2 23 6 v → w4 = sI w3 23 5 ((gI w3 23 5) + 1) → FM [(23, 5), (23, 6), (23, 7), (23, 8)] [] w w4 ∧ gI w4 23 6 = v ∧ (gI w4 23 7).toInt = s ∧ (gI w4 23 5).toInt = (s + 1 : Nat) := by
            intro w3 w4 v e3 e4
            have hS3 : SK w3 := by rw [e3]; exact SK_sI hS2
            refine ⟨FM_trans f2 (FM_trans (w1 := w3) (by rw [e3]; exact FM_sI hS2 (by decide)) (by rw [e4]; exact FM_sI hS3 (by decide))), ?_, ?_, ?_⟩
            · rw [e4, gI_sI_ne (by decide), e3]
              exact gI_sI (SK_isF hS2 (by decide +kernel))
            · rw [e4, gI_sI_ne (by decide), e3, gI_sI_ne (by decide), p2]
              exact a1
            · have q : gI w3 23 5 = gI w1 23 5 := by rw [e3, gI_sI_ne (by decide)]; exact a2
              rw [e4, gI_sI (SK_isF hS3 (by decide +kernel)), q, zi_inc (n := (gI w 23 4).toInt) (by omega) (zi_hi _)]
              omega
          by_cases c4 : cb w s = 59
          · rw [if_pos c4] at h
            obtain ⟨z1, z2⟩ := fin _ _ _ (SK_sI (SK_sI hS2)) (h _ rfl _ rfl)
            obtain ⟨q1, q2, q3, q4⟩ := one _ _ _ rfl rfl
            rw [z2, if_pos c4]
            exact ⟨z1, q1, q2, q3, q4, fun z => absurd z (by decide)⟩
          · rw [if_neg c4] at h
            obtain ⟨z1, z2⟩ := fin _ _ _ (SK_sI (SK_sI hS2)) (h _ rfl _ rfl)
            obtain ⟨q1, q2, q3, q4⟩ := one _ _ _ rfl rfl
            rw [z2, if_neg c4]
            exact ⟨z1, q1, q2, q3, q4, fun z => absurd z (by decide)⟩
        · rw [if_neg c3] at h
          rw [b2i_0, Bool.not_eq_false] at c3
          rw [c3]
          simp only [if_true]
          obtain ⟨w3, hS3, hD, h⟩ := use_v (D := fun w3 => FM [(23, 5), (23, 6), (23, 8)] [] (sI w2 23 8 0) w3 ∧ (gI w3 23 5).toInt = (tkE isDg (cb w) (cn w) s : Nat) ∧ gI w3 23 6 = (if tkE isDg (cb w) (cn w) s ≤ s + 2 then 2 else 4) ∧ (gI w3 23 8).toInt = dgV (cb w) s (tkE isDg (cb w) (cn w) s - s)) h (by
            intro r1 w3 q
            cases k1 with
            | zero => exact (PS_0 q).elim
            | succ k1 =>
              have q := U28_0 hS2 q _ rfl
              obtain ⟨w9, e9⟩ : ∃ w9, w9 = sI w2 23 8 0 := ⟨_, rfl⟩
              rw [← e9] at q ⊢
              have hS9 : SK w9 := by rw [e9]; exact SK_sI hS2
              have f9 : FM [(23, 5), (23, 6), (23, 7), (23, 8)] [] w w9 := FM_trans f2 (by rw [e9]; exact FM_sI hS2 (by decide))
              have b9 : cb w9 = cb w := cb_FM f9 (by decide) (by intro z; cases z)
              have n9 : cn w9 = cn w := cn_FM f9 (by decide)
              have q := F28_5 _ _ s 0 hS9 (by rw [e9, gI_sI_ne (by decide), p2]; exact a1) (by rw [e9, gI_sI_ne (by decide), a2]; exact a1) (by rw [e9, gI_sI (SK_isF hS2 (by decide +kernel))]; rfl) (fun j hj => absurd hj (Nat.not_lt_zero j)) q
              rw [b9, n9, Nat.add_zero] at q
              exact ⟨q.1, q.2.1.2.2.2, q.2⟩)
          obtain ⟨q1, q2, q3, q4⟩ := hD
          obtain ⟨z1, z2⟩ := fin _ _ _ hS3 h
          have f3 : FM [(23, 5), (23, 6), (23, 7), (23, 8)] [] w w3 := FM_trans f2 (FM_trans (FM_sI hS2 (by decide)) (FM_mono q1 (by decide) (by decide)))
          rw [z2]
          refine ⟨z1, f3, ?_, ?_, q2, fun _ => q4⟩
          · rw [q3]
            by_cases c : tkE isDg (cb w) (cn w) s ≤ s + 2
            · rw [if_pos c, if_pos c]; rfl
            · rw [if_neg c, if_neg c]; rfl
          · rw [FM_i q1 (by decide), gI_sI_ne (by decide), p2]
            exact a1
      · rw [if_neg c2] at h
        rw [b2i_0, Bool.not_eq_false] at c2
        rw [c2]
        simp only [if_true]
        have h := h _ rfl
        obtain ⟨w3, e3⟩ : ∃ w3, w3 = sI w2 23 6 1 := ⟨_, rfl⟩
        rw [← e3] at h
        have hS3 : SK w3 := by rw [e3]; exact SK_sI hS2
        have f3 : FM [(23, 5), (23, 6), (23, 7), (23, 8)] [] w w3 := FM_trans f2 (by rw [e3]; exact FM_sI hS2 (by decide))
        have a3 : gI w3 23 5 = gI w1 23 5 := by rw [e3, gI_sI_ne (by decide)]; exact a2
        have q := F23_86 _ _ _ hS3 (by rw [a3, a1]; omega) h
        have b3 : cb w3 = cb w := cb_FM f3 (by decide) (by intro z; cases z)
        have n3 : cn w3 = cn w := cn_FM f3 (by decide)
        have ec : cat w3 = s := by unfold cat; rw [a3, a1]; omega
        rw [b3, n3, ec] at q
        obtain ⟨q1, q2, q3⟩ := q
        refine ⟨q1, FM_trans f3 (FM_mono q2 (by decide) (by decide)), ?_, ?_, q3, fun z => absurd z (by decide)⟩
        · rw [FM_i q2 (by decide), e3]
          exact gI_sI (SK_isF hS2 (by decide +kernel))
        · rw [FM_i q2 (by decide), e3, gI_sI_ne (by decide), p2]
          exact a1
    · rw [if_neg c1] at h
      rw [Int32.lt_iff_toInt_lt, a2, n2', a1] at c1
      rw [if_pos (show cn w ≤ s by unfold cn; omega), if_pos (show cn w ≤ s by unfold cn; omega)]
      obtain ⟨z1, z2⟩ := fin _ _ _ (SK_sI hS2) (h _ rfl)
      rw [z2]
      refine ⟨z1, FM_trans f2 (FM_sI hS2 (by decide)), ?_, ?_, ?_, fun z => absurd z (by decide)⟩
      · exact gI_sI (SK_isF hS2 (by decide +kernel))
      · rw [gI_sI_ne (by decide), p2]; exact a1
      · rw [gI_sI_ne (by decide), a2]; exact a1
end FC
end
section
/-! ===== the reference's reader: a token ===== -/
section FD
variable {X : pm_X} {k : Nat} {w w' : pm_W} {r : Option Value} {p p1 p2 p3 : Int32}
def rb (w : pm_W) (i : Nat) : Int32 := (gA w 148).getD (10 + i) 0
def rn (w : pm_W) : Nat := (gI w 147 2).toInt.toNat
def rat (w : pm_W) : Nat := (gI w 147 3).toInt.toNat
def rAt (w : pm_W) (p : Int32) : Int32 := if gI w 147 2 ≤ p then -1 else aG w 148 (10 + p)
theorem F202 (hS : SK w) (h : PS X k 202 0 [.ref 147, .int p] [] w r w') : r = some (.int (rAt w p)) ∧ w' = w := by
  cases k with
  | zero => exact (PS_0 h).elim
  | succ k =>
    have h := U202_0 hS h
    unfold rAt
    by_cases c1 : gI w 147 2 ≤ p
    · rw [if_pos c1] at h ⊢
      exact h
    · rw [if_neg c1] at h ⊢
      exact h.2
theorem ten32 : (10 : Int32).toInt = 10 := by decide +kernel
theorem rAt_in (h0 : 0 ≤ p.toInt) (h1 : p.toInt < (gI w 147 2).toInt) (h2 : (gI w 147 2).toInt ≤ 600) : rAt w p = rb w p.toInt.toNat := by
  unfold rAt
  rw [if_neg (by rw [Int32.le_iff_toInt_le]; omega)]
  unfold aG rb
  rw [zi_cl (zi_add ten32 rfl (by omega) (by omega)), show (10 + p.toInt).toNat = 10 + p.toInt.toNat by omega]
theorem rAt_out (h1 : (gI w 147 2).toInt ≤ p.toInt) : rAt w p = -1 := by
  unfold rAt
  rw [if_pos (by rw [Int32.le_iff_toInt_le]; omega)]
theorem F203 (hS : SK w) (h : PS X k 203 0 [.int p] [] w r w') : r = some (.int (b2i (isLt p))) ∧ w' = w := by
  cases k with
  | zero => exact (PS_0 h).elim
  | succ k =>
    have h := U203_0 hS h
    have e1 : (97 : Int32).toInt = 97 := by decide +kernel
    have e2 : (122 : Int32).toInt = 122 := by decide +kernel
    unfold isLt
    by_cases c1 : p < 97
    · rw [if_pos c1] at h
      rw [Int32.lt_iff_toInt_lt, e1] at c1
      rw [decide_eq_false (show ¬ 97 ≤ p.toInt by omega)]
      exact h
    · rw [if_neg c1] at h
      rw [Int32.lt_iff_toInt_lt, e1] at c1
      rw [decide_eq_true (show 97 ≤ p.toInt by omega)]
      by_cases c2 : 122 < p
      · rw [if_pos c2] at h
        rw [Int32.lt_iff_toInt_lt, e2] at c2
        rw [decide_eq_false (show ¬ p.toInt ≤ 122 by omega)]
        exact h
      · rw [if_neg c2] at h
        rw [Int32.lt_iff_toInt_lt, e2] at c2
        rw [decide_eq_true (show p.toInt ≤ 122 by omega)]
        exact h
theorem F206 (hS : SK w) (h : PS X k 206 0 [.int p] [] w r w') : r = some (.int (b2i (isDg p))) ∧ w' = w := by
  cases k with
  | zero => exact (PS_0 h).elim
  | succ k =>
    have h := U206_0 hS h
    have e1 : (48 : Int32).toInt = 48 := by decide +kernel
    have e2 : (57 : Int32).toInt = 57 := by decide +kernel
    unfold isDg
    by_cases c1 : p < 48
    · rw [if_pos c1] at h
      rw [Int32.lt_iff_toInt_lt, e1] at c1
      rw [decide_eq_false (show ¬ 48 ≤ p.toInt by omega)]
      exact h
    · rw [if_neg c1] at h
      rw [Int32.lt_iff_toInt_lt, e1] at c1
      rw [decide_eq_true (show 48 ≤ p.toInt by omega)]
      by_cases c2 : 57 < p
      · rw [if_pos c2] at h
        rw [Int32.lt_iff_toInt_lt, e2] at c2
        rw [decide_eq_false (show ¬ p.toInt ≤ 57 by omega)]
        exact h
      · rw [if_neg c2] at h
        rw [Int32.lt_iff_toInt_lt, e2] at c2
        rw [decide_eq_true (show p.toInt ≤ 57 by omega)]
        exact h
/-- whether a number lies between two -/
def isI (x a b : Int32) : Bool := decide (a.toInt ≤ x.toInt) && decide (x.toInt ≤ b.toInt)
theorem F199 (hS : SK w) (h : PS X k 199 0 [.int p1, .int p2, .int p3] [] w r w') : r = some (.int (b2i (isI p1 p2 p3))) ∧ w' = w := by
  cases k with
  | zero => exact (PS_0 h).elim
  | succ k =>
    have h := U199_0 hS h
    unfold isI
    by_cases c1 : p1 < p2
    · rw [if_pos c1] at h
      rw [Int32.lt_iff_toInt_lt] at c1
      rw [decide_eq_false (show ¬ p2.toInt ≤ p1.toInt by omega)]
      exact h
    · rw [if_neg c1] at h
      rw [Int32.lt_iff_toInt_lt] at c1
      rw [decide_eq_true (show p2.toInt ≤ p1.toInt by omega)]
      by_cases c2 : p3 < p1
      · rw [if_pos c2] at h
        rw [Int32.lt_iff_toInt_lt] at c2
        rw [decide_eq_false (show ¬ p1.toInt ≤ p3.toInt by omega)]
        exact h
      · rw [if_neg c2] at h
        rw [Int32.lt_iff_toInt_lt] at c2
        rw [decide_eq_true (show p1.toInt ≤ p3.toInt by omega)]
        exact h
theorem F205 (hS : SK w) (h : PS X k 205 0 [.int p1, .int p2, .int p3] [] w r w') : r = some (.int ((((p1 * 32) + p2) * 32) + p3)) ∧ w' = w := by
  cases k with
  | zero => exact (PS_0 h).elim
  | succ k => exact U205_0 hS h
/-- a word's code, by the number that its letters make; 99 none -/
def wdK (v : Int) : Int32 := if v = 542622085 then 1 else if v = 769604 then 2 else if v = 1420 then 3 else if v = 6309 then 4 else if v = 599659 then 5 else if v = 20317291 then 6 else if v = 755156 then 7 else if v = 16101 then 11 else if v = 16441 then 12 else if v = 599495 then 13 else if v = 659105125 then 14 else if v = 197932 then 15 else if v = 14137992 then 16 else 99
theorem F204 {v : Int} (hS : SK w) (hv : p.toInt = v) (h : PS X k 204 0 [.int p] [] w r w') : r = some (.int (wdK v)) ∧ w' = w := by
  cases k with
  | zero => exact (PS_0 h).elim
  | succ k =>
    have h := U204_0 hS h
    have g : ∀ (q : Int32) (n : Int), q.toInt = n → (p = q ↔ v = n) := by
      intro q n hq
      rw [← Int32.toInt_inj, hv, hq]
    unfold wdK
    have h := use_p hS h (fun _ _ q => F205 hS q)
    have h := use_p hS h (fun _ _ q => F205 hS q)
    by_cases c1 : v = 542622085
    · rw [if_pos ((g _ 542622085 (by decide +kernel)).mpr c1)] at h
      rw [if_pos c1]
      exact h
    rw [if_neg (fun q => c1 ((g _ 542622085 (by decide +kernel)).mp q))] at h
    rw [if_neg c1]
    have h := use_p hS h (fun _ _ q => F205 hS q)
    by_cases c2 : v = 769604
    · rw [if_pos ((g _ 769604 (by decide +kernel)).mpr c2)] at h
      rw [if_pos c2]
      exact h
    rw [if_neg (fun q => c2 ((g _ 769604 (by decide +kernel)).mp q))] at h
    rw [if_neg c2]
    have h := use_p hS h (fun _ _ q => F205 hS q)
    by_cases c3 : v = 1420
    · rw [if_pos ((g _ 1420 (by decide +kernel)).mpr c3)] at h
      rw [if_pos c3]
      exact h
    rw [if_neg (fun q => c3 ((g _ 1420 (by decide +kernel)).mp q))] at h
    rw [if_neg c3]
    have h := use_p hS h (fun _ _ q => F205 hS q)
    by_cases c4 : v = 6309
    · rw [if_pos ((g _ 6309 (by decide +kernel)).mpr c4)] at h
      rw [if_pos c4]
      exact h
    rw [if_neg (fun q => c4 ((g _ 6309 (by decide +kernel)).mp q))] at h
    rw [if_neg c4]
    have h := use_p hS h (fun _ _ q => F205 hS q)
    by_cases c5 : v = 599659
    · rw [if_pos ((g _ 599659 (by decide +kernel)).mpr c5)] at h
      rw [if_pos c5]
      exact h
    rw [if_neg (fun q => c5 ((g _ 599659 (by decide +kernel)).mp q))] at h
    rw [if_neg c5]
    have h := use_p hS h (fun _ _ q => F205 hS q)
    by_cases c6 : v = 20317291
    · rw [if_pos ((g _ 20317291 (by decide +kernel)).mpr c6)] at h
      rw [if_pos c6]
      exact h
    rw [if_neg (fun q => c6 ((g _ 20317291 (by decide +kernel)).mp q))] at h
    rw [if_neg c6]
    have h := use_p hS h (fun _ _ q => F205 hS q)
    by_cases c7 : v = 755156
    · rw [if_pos ((g _ 755156 (by decide +kernel)).mpr c7)] at h
      rw [if_pos c7]
      exact h
    rw [if_neg (fun q => c7 ((g _ 755156 (by decide +kernel)).mp q))] at h
    rw [if_neg c7]
    have h := use_p hS h (fun _ _ q => F205 hS q)
    by_cases c11 : v = 16101
    · rw [if_pos ((g _ 16101 (by decide +kernel)).mpr c11)] at h
      rw [if_pos c11]
      exact h
    rw [if_neg (fun q => c11 ((g _ 16101 (by decide +kernel)).mp q))] at h
    rw [if_neg c11]
    have h := use_p hS h (fun _ _ q => F205 hS q)
    by_cases c12 : v = 16441
    · rw [if_pos ((g _ 16441 (by decide +kernel)).mpr c12)] at h
      rw [if_pos c12]
      exact h
    rw [if_neg (fun q => c12 ((g _ 16441 (by decide +kernel)).mp q))] at h
    rw [if_neg c12]
    have h := use_p hS h (fun _ _ q => F205 hS q)
    by_cases c13 : v = 599495
    · rw [if_pos ((g _ 599495 (by decide +kernel)).mpr c13)] at h
      rw [if_pos c13]
      exact h
    rw [if_neg (fun q => c13 ((g _ 599495 (by decide +kernel)).mp q))] at h
    rw [if_neg c13]
    have h := use_p hS h (fun _ _ q => F205 hS q)
    have h := use_p hS h (fun _ _ q => F205 hS q)
    by_cases c14 : v = 659105125
    · rw [if_pos ((g _ 659105125 (by decide +kernel)).mpr c14)] at h
      rw [if_pos c14]
      exact h
    rw [if_neg (fun q => c14 ((g _ 659105125 (by decide +kernel)).mp q))] at h
    rw [if_neg c14]
    have h := use_p hS h (fun _ _ q => F205 hS q)
    by_cases c15 : v = 197932
    · rw [if_pos ((g _ 197932 (by decide +kernel)).mpr c15)] at h
      rw [if_pos c15]
      exact h
    rw [if_neg (fun q => c15 ((g _ 197932 (by decide +kernel)).mp q))] at h
    rw [if_neg c15]
    have h := use_p hS h (fun _ _ q => F205 hS q)
    by_cases c16 : v = 14137992
    · rw [if_pos ((g _ 14137992 (by decide +kernel)).mpr c16)] at h
      rw [if_pos c16]
      exact h
    rw [if_neg (fun q => c16 ((g _ 14137992 (by decide +kernel)).mp q))] at h
    rw [if_neg c16]
    exact h
/-- the number that t letters from s on make, six at most -/
def wdV (bs : Nat → Int32) (s : Nat) : Nat → Int
  | 0 => 0
  | t + 1 => if t < 6 then 32 * wdV bs s t + (bs (s + t)).toInt - 96 else wdV bs s t
def wdB (t : Nat) : Int := match t with
  | 0 => 0
  | 1 => 26
  | 2 => 858
  | 3 => 27482
  | 4 => 879450
  | 5 => 28142426
  | _ => 900557658
theorem wdV_b {bs : Nat → Int32} {s : Nat} : ∀ t : Nat, (∀ j, j < t → isLt (bs (s + j)) = true) → 0 ≤ wdV bs s t ∧ wdV bs s t ≤ wdB t
  | 0, h => ⟨Int.le_refl 0, Int.le_refl 0⟩
  | t + 1, h => by
    have q := wdV_b t (fun j hj => h j (by omega))
    have l := isLt_b (h t (by omega))
    show 0 ≤ (if t < 6 then 32 * wdV bs s t + (bs (s + t)).toInt - 96 else wdV bs s t) ∧ (if t < 6 then 32 * wdV bs s t + (bs (s + t)).toInt - 96 else wdV bs s t) ≤ wdB (t + 1)
    by_cases e : t < 6
    · rw [if_pos e]
      have c : t = 0 ∨ t = 1 ∨ t = 2 ∨ t = 3 ∨ t = 4 ∨ t = 5 := by omega
      rcases c with rfl | rfl | rfl | rfl | rfl | rfl <;> (simp only [wdB] at q ⊢; omega)
    · rw [if_neg e]
      obtain ⟨m, rfl⟩ : ∃ m, t = m + 6 := ⟨t - 6, by omega⟩
      exact q
/-- the code of the letters from s to e -/
def wdC (bs : Nat → Int32) (s e : Nat) : Int32 := if e ≤ s + 6 then wdK (wdV bs s (e - s)) else 99
/-- what the reference calls a token -/
def rTk (bs : Nat → Int32) (n i : Nat) : Int32 := match tkK bs n i with
  | 0 => 0
  | 1 => if wdC bs (tkS bs n i) (tkN bs n i) = 99 then 4 else 3
  | 2 => 1
  | 3 => 2
  | _ => 4
theorem rn_FM {fs : List (Nat × Nat)} {as : List Nat} {w1 : pm_W} (h : FM fs as w w1) (q : (147, 2) ∉ fs) : rn w1 = rn w := by unfold rn; rw [FM_i h q]
theorem rb_FM {fs : List (Nat × Nat)} {as : List Nat} {w1 : pm_W} (h : FM fs as w w1) (q : 148 ∉ as) : rb w1 = rb w := by
  funext i
  unfold rb
  rw [FM_a h q]
theorem nx_step {w1 : pm_W} (hS : SK w) (e : w1 = sI w 147 3 (gI w 147 3 + 1)) (h1 : (gI w 147 3).toInt < (gI w 147 2).toInt) : FM [(147, 3)] [] w w1 ∧ (gI w1 147 3).toInt = (gI w 147 3).toInt + 1 := by
  subst e
  refine ⟨FM_sI hS (by decide), ?_⟩
  rw [gI_sI (SK_isF hS (by decide +kernel))]
  exact zi_inc h1 (zi_hi _)
/-- the bytes are 0 to 255, 600 at most -/
def RB (w : pm_W) : Prop := 0 ≤ (gI w 147 2).toInt ∧ (gI w 147 2).toInt ≤ 600 ∧ ∀ i, i < rn w → 0 ≤ (rb w i).toInt
theorem RB_FM {fs : List (Nat × Nat)} {as : List Nat} {w1 : pm_W} (hR : RB w) (h : FM fs as w w1) (q : (147, 2) ∉ fs) (qa : 148 ∉ as) : RB w1 := by
  unfold RB
  rw [rn_FM h q, rb_FM h qa, FM_i h q]
  exact hR
/-- to the end of blanks: then where = next, and c is the byte there -/
theorem F201_0 : ∀ (k : Nat) (w : pm_W), SK w → RB w → 0 ≤ (gI w 147 3).toInt → PS X k 201 0 [.ref 147, pm_dead, pm_dead] [] w r w' → ∃ (k' : Nat) (w1 : pm_W), FM [(147, 3)] [] w w1 ∧ (gI w1 147 3).toInt = (tkS (rb w) (rn w) (rat w) : Nat) ∧ k' < k ∧ isBl (rAt w1 (gI w1 147 3)) = false ∧ PS X (k' + 1) 201 0 [.ref 147, pm_dead, pm_dead] [] w1 r w' := by
  intro k
  induction k with
  | zero => intro w hS hR h0 h; exact (PS_0 h).elim
  | succ k ih =>
    intro w hS hR h0 h
    have hk := h
    have h := U201_0 hS h
    have h := use_p hS h (fun _ _ q => F202 hS q)
    -- a blank: one further
    have go : isBl (rAt w (gI w 147 3)) = true → PS X k 201 26 [.ref 147, pm_dead, pm_dead] [] w r w' → ∃ (k' : Nat) (w1 : pm_W), FM [(147, 3)] [] w w1 ∧ (gI w1 147 3).toInt = (tkS (rb w) (rn w) (rat w) : Nat) ∧ k' < k + 1 ∧ isBl (rAt w1 (gI w1 147 3)) = false ∧ PS X (k' + 1) 201 0 [.ref 147, pm_dead, pm_dead] [] w1 r w' := by
      intro hb q
      have hin : (gI w 147 3).toInt < (gI w 147 2).toInt := by
        by_cases c : (gI w 147 2).toInt ≤ (gI w 147 3).toInt
        · rw [rAt_out c] at hb
          exact absurd hb (by decide +kernel)
        · omega
      cases k with
      | zero => exact (PS_0 q).elim
      | succ k =>
        have q := U201_26 hS q _ rfl
        obtain ⟨w1, e⟩ : ∃ w1, w1 = sI w 147 3 (gI w 147 3 + 1) := ⟨_, rfl⟩
        rw [← e] at q
        obtain ⟨f1, a1⟩ := nx_step hS e hin
        have hS1 := f1.2.2.2
        obtain ⟨k', w2, f2, a2, hk, hb2, h2⟩ := ih w1 hS1 (RB_FM hR f1 (by decide) (by decide)) (by omega) (PS_mono (Nat.le_succ _) q)
        refine ⟨k', w2, FM_trans f1 f2, ?_, by omega, hb2, h2⟩
        rw [a2, rb_FM f1 (by decide), rn_FM f1 (by decide)]
        have ec : rat w1 = rat w + 1 := by unfold rat; omega
        rw [rAt_in h0 hin hR.2.1] at hb
        unfold tkS
        rw [ec, spn_t (n := rn w) (i := rat w) (by unfold rn rat; omega) hb]
    have stay : isBl (rAt w (gI w 147 3)) = false → ∃ (k' : Nat) (w1 : pm_W), FM [(147, 3)] [] w w1 ∧ (gI w1 147 3).toInt = (tkS (rb w) (rn w) (rat w) : Nat) ∧ k' < k + 1 ∧ isBl (rAt w1 (gI w1 147 3)) = false ∧ PS X (k' + 1) 201 0 [.ref 147, pm_dead, pm_dead] [] w1 r w' := by
      intro hb
      refine ⟨k, w, FM_refl hS, ?_, by omega, hb, hk⟩
      unfold tkS
      by_cases c : (gI w 147 2).toInt ≤ (gI w 147 3).toInt
      · rw [spn_n (by unfold rn rat; omega)]
        unfold rat
        omega
      · rw [rAt_in h0 (by omega) hR.2.1] at hb
        rw [spn_f (by unfold rat; exact hb)]
        unfold rat
        omega
    by_cases c1 : rAt w (gI w 147 3) = 10
    · rw [if_pos c1] at h
      refine go ?_ h
      unfold isBl
      rw [decide_eq_true c1]
      rfl
    · rw [if_neg c1] at h
      have h := use_p hS h (fun _ _ q => F202 hS q)
      by_cases c2 : rAt w (gI w 147 3) = 32
      · rw [if_pos c2] at h
        refine go ?_ h
        unfold isBl
        rw [decide_eq_false c1, decide_eq_true c2]
        rfl
      · refine stay ?_
        unfold isBl
        rw [decide_eq_false c1, decide_eq_false c2]
        rfl
end FD
end
section
section FE
variable {X : pm_X} {k : Nat} {w w' : pm_W} {r : Option Value} {p p1 p2 p3 : Int32}
theorem fin201 {w5 : pm_W} {x : Int32} {u : Value} (hS : SK w5) (q : PS X k 201 308 [.ref 147, .int x, u] [] w5 r w') : r = none ∧ w' = w5 := by
  cases k with
  | zero => exact (PS_0 q).elim
  | succ j => exact U201_308 hS q
theorem six32 : (6 : Int32).toInt = 6 := by decide +kernel
/-- letters: s the place, t how many are behind -/
theorem F201_77 : ∀ (k : Nat) (w : pm_W) (s t : Nat) (x v : Int32), SK w → RB w → (gI w 147 4).toInt = s → (gI w 147 3).toInt = (s + t : Nat) → v.toInt = wdV (rb w) s t → (∀ j, j < t → isLt (rb w (s + j)) = true) → PS X k 201 77 [.ref 147, .int x, .int v] [] w r w' → r = none ∧ FM [(147, 3), (147, 5), (147, 7)] [] w w' ∧ (gI w' 147 3).toInt = (tkE isLt (rb w) (rn w) (s + t) : Nat) ∧ gI w' 147 7 = wdC (rb w) s (tkE isLt (rb w) (rn w) (s + t)) ∧ gI w' 147 5 = (if wdC (rb w) s (tkE isLt (rb w) (rn w) (s + t)) = 99 then 4 else 3) := by
  intro k
  induction k with
  | zero => intro w s t x v hS hR hp ha hv hl h; exact (PS_0 h).elim
  | succ k ih =>
    intro w s t x v hS hR hp ha hv hl h
    have h := U201_77 hS h
    have h := use_p hS h (fun _ _ q => F202 hS q)
    have h := use_p hS h (fun _ _ q => F203 hS q)
    have hhi := zi_hi (gI w 147 3)
    have hsub : (gI w 147 3 - gI w 147 4).toInt = t := by
      rw [zi_sub rfl rfl (by omega) (by omega)]
      omega
    have ecat : (gI w 147 3).toInt.toNat = s + t := by omega
    have hin : isLt (rAt w (gI w 147 3)) = true → (gI w 147 3).toInt < (gI w 147 2).toInt := by
      intro hb
      by_cases c : (gI w 147 2).toInt ≤ (gI w 147 3).toInt
      · rw [rAt_out c] at hb
        exact absurd hb (by decide +kernel)
      · omega
    by_cases c1 : b2i (isLt (rAt w (gI w 147 3))) = 0
    · rw [if_pos c1] at h
      rw [b2i_0] at c1
      have ee : tkE isLt (rb w) (rn w) (s + t) = s + t := by
        by_cases c : (gI w 147 2).toInt ≤ (gI w 147 3).toInt
        · exact spn_n (by unfold rn; omega)
        · rw [rAt_in (by omega) (by omega) hR.2.1, ecat] at c1
          exact spn_f c1
      rw [ee]
      have fin : ∀ c : Int32, c = wdC (rb w) s (s + t) → (∀ w10 : pm_W, w10 = sI w 147 7 c → (if (gI w10 147 7) = 99 then (∀ w12 : pm_W, w12 = sI w10 147 5 4 → (PS X k 201 308 [.ref 147, .int x, .int v] [] w12 r w')) else (∀ w11 : pm_W, w11 = sI w10 147 5 3 → (PS X k 201 308 [.ref 147, .int x, .int v] [] w11 r w')))) → r = none ∧ FM [(147, 3), (147, 5), (147, 7)] [] w w' ∧ (gI w' 147 3).toInt = ((s + t : Nat) : Int) ∧ gI w' 147 7 = wdC (rb w) s (s + t) ∧ gI w' 147 5 = (if wdC (rb w) s (s + t) = 99 then 4 else 3) := by
        intro c ec q
        have q := q _ rfl
        have hS1 : SK (sI w 147 7 c) := SK_sI hS
        have e7 : gI (sI w 147 7 c) 147 7 = c := gI_sI (SK_isF hS (by decide +kernel))
        rw [e7] at q
        have all : ∀ z : Int32, r = none ∧ w' = sI (sI w 147 7 c) 147 5 z → z = (if wdC (rb w) s (s + t) = 99 then 4 else 3) → r = none ∧ FM [(147, 3), (147, 5), (147, 7)] [] w w' ∧ (gI w' 147 3).toInt = ((s + t : Nat) : Int) ∧ gI w' 147 7 = wdC (rb w) s (s + t) ∧ gI w' 147 5 = (if wdC (rb w) s (s + t) = 99 then 4 else 3) := by
          intro z hz ez
          obtain ⟨z1, z2⟩ := hz
          rw [z2]
          refine ⟨z1, FM_trans (FM_sI hS (by decide)) (FM_sI hS1 (by decide)), ?_, ?_, ?_⟩
          · rw [gI_sI_ne (by decide), gI_sI_ne (by decide)]; exact ha
          · rw [gI_sI_ne (by decide), e7]; exact ec
          · rw [gI_sI (SK_isF hS1 (by decide +kernel))]; exact ez
        by_cases c9 : c = 99
        · rw [if_pos c9] at q
          exact all 4 (fin201 (SK_sI hS1) (q _ rfl)) (by rw [← ec, if_pos c9])
        · rw [if_neg c9] at q
          exact all 3 (fin201 (SK_sI hS1) (q _ rfl)) (by rw [← ec, if_neg c9])
      by_cases c2 : (gI w 147 3) - (gI w 147 4) ≤ 6
      · rw [if_pos c2] at h
        rw [Int32.le_iff_toInt_le, hsub, six32] at c2
        have h := use_p hS h (fun _ _ q => F204 hS hv q)
        refine fin _ ?_ h
        unfold wdC
        rw [if_pos (by omega), show s + t - s = t by omega]
      · rw [if_neg c2] at h
        rw [Int32.le_iff_toInt_le, hsub, six32] at c2
        refine fin _ ?_ h
        unfold wdC
        rw [if_neg (by omega)]
    · rw [if_neg c1] at h
      rw [b2i_0, Bool.not_eq_false] at c1
      have hi := hin c1
      rw [rAt_in (by omega) hi hR.2.1, ecat] at c1
      have hg := isLt_b c1
      have est : tkE isLt (rb w) (rn w) (s + t) = tkE isLt (rb w) (rn w) (s + (t + 1)) := spn_t (n := rn w) (i := s + t) (by unfold rn; omega) c1
      have step : ∀ v2 : Int32, v2.toInt = wdV (rb w) s (t + 1) → PS X k 201 122 [.ref 147, .int x, .int v2] [] w r w' → r = none ∧ FM [(147, 3), (147, 5), (147, 7)] [] w w' ∧ (gI w' 147 3).toInt = (tkE isLt (rb w) (rn w) (s + t) : Nat) ∧ gI w' 147 7 = wdC (rb w) s (tkE isLt (rb w) (rn w) (s + t)) ∧ gI w' 147 5 = (if wdC (rb w) s (tkE isLt (rb w) (rn w) (s + t)) = 99 then 4 else 3) := by
        intro v2 ev q
        cases k with
        | zero => exact (PS_0 q).elim
        | succ k =>
          have q := U201_122 hS q _ rfl
          obtain ⟨w1, e⟩ : ∃ w1, w1 = sI w 147 3 (gI w 147 3 + 1) := ⟨_, rfl⟩
          rw [← e] at q
          obtain ⟨f1, a1⟩ := nx_step hS e hi
          have b1 := rb_FM f1 (by decide)
          have n1 := rn_FM f1 (by decide)
          have q := ih w1 s (t + 1) x v2 f1.2.2.2 (RB_FM hR f1 (by decide) (by decide)) (by rw [FM_i f1 (by decide)]; exact hp) (by rw [a1]; omega) (by rw [b1]; exact ev) (by
            intro j hj
            rw [b1]
            by_cases e : j = t
            · rw [e]; exact c1
            · exact hl j (by omega)) (PS_mono (Nat.le_succ _) q)
          rw [b1, n1, ← est] at q
          exact ⟨q.1, FM_trans (FM_mono f1 (by decide) (by decide)) q.2.1, q.2.2⟩
      by_cases c3 : 6 ≤ (gI w 147 3) - (gI w 147 4)
      · rw [if_pos c3] at h
        rw [Int32.le_iff_toInt_le, hsub, six32] at c3
        refine step v ?_ h
        show v.toInt = (if t < 6 then _ else wdV (rb w) s t)
        rw [if_neg (by omega)]
        exact hv
      · rw [if_neg c3] at h
        rw [Int32.le_iff_toInt_le, hsub, six32] at c3
        have h := use_p hS h (fun _ _ q => F202 hS q)
        rw [rAt_in (by omega) hi hR.2.1, ecat] at h
        refine step _ ?_ h
        show _ = (if t < 6 then 32 * wdV (rb w) s t + (rb w (s + t)).toInt - 96 else wdV (rb w) s t)
        rw [if_pos (by omega)]
        have bd := wdV_b t hl
        have t32 : (32 : Int32).toInt = 32 := by decide +kernel
        have t96 : (96 : Int32).toInt = 96 := by decide +kernel
        have bd2 : wdV (rb w) s t ≤ 28142426 := by
          have c : t = 0 ∨ t = 1 ∨ t = 2 ∨ t = 3 ∨ t = 4 ∨ t = 5 := by omega
          have b := bd.2
          rcases c with e | e | e | e | e | e <;> (rw [e] at b ⊢; simp only [wdB] at b; omega)
        exact zi_sub (zi_add (zi_mul t32 hv (by omega) (by omega)) rfl (by omega) (by omega)) t96 (by omega) (by omega)
/-- digits -/
theorem F201_195 : ∀ (k : Nat) (w : pm_W) (s t : Nat) (x : Int32), SK w → RB w → (gI w 147 4).toInt = s → (gI w 147 3).toInt = (s + t : Nat) → (gI w 147 6).toInt = dgV (rb w) s t → (∀ j, j < t → isDg (rb w (s + j)) = true) → PS X k 201 195 [.ref 147, .int x, pm_dead] [] w r w' → r = none ∧ FM [(147, 3), (147, 5), (147, 6)] [] w w' ∧ (gI w' 147 3).toInt = (tkE isDg (rb w) (rn w) (s + t) : Nat) ∧ gI w' 147 5 = (if tkE isDg (rb w) (rn w) (s + t) ≤ s + 2 then 1 else 4) ∧ (gI w' 147 6).toInt = dgV (rb w) s (tkE isDg (rb w) (rn w) (s + t) - s) := by
  intro k
  induction k with
  | zero => intro w s t x hS hR hp ha hv hl h; exact (PS_0 h).elim
  | succ k ih =>
    intro w s t x hS hR hp ha hv hl h
    have h := U201_195 hS h
    have h := use_p hS h (fun _ _ q => F202 hS q)
    have h := use_p hS h (fun _ _ q => F206 hS q)
    have hhi := zi_hi (gI w 147 3)
    have hsub : (gI w 147 3 - gI w 147 4).toInt = t := by
      rw [zi_sub rfl rfl (by omega) (by omega)]
      omega
    have ecat : (gI w 147 3).toInt.toNat = s + t := by omega
    have hin : isDg (rAt w (gI w 147 3)) = true → (gI w 147 3).toInt < (gI w 147 2).toInt := by
      intro hb
      by_cases c : (gI w 147 2).toInt ≤ (gI w 147 3).toInt
      · rw [rAt_out c] at hb
        exact absurd hb (by decide +kernel)
      · omega
    by_cases c1 : b2i (isDg (rAt w (gI w 147 3))) = 0
    · rw [if_pos c1] at h
      rw [b2i_0] at c1
      have ee : tkE isDg (rb w) (rn w) (s + t) = s + t := by
        by_cases c : (gI w 147 2).toInt ≤ (gI w 147 3).toInt
        · exact spn_n (by unfold rn; omega)
        · rw [rAt_in (by omega) (by omega) hR.2.1, ecat] at c1
          exact spn_f c1
      rw [ee, show s + t - s = t by omega]
      have all : ∀ z : Int32, r = none ∧ w' = sI w 147 5 z → z = (if s + t ≤ s + 2 then 1 else 4) → r = none ∧ FM [(147, 3), (147, 5), (147, 6)] [] w w' ∧ (gI w' 147 3).toInt = ((s + t : Nat) : Int) ∧ gI w' 147 5 = (if s + t ≤ s + 2 then 1 else 4) ∧ (gI w' 147 6).toInt = dgV (rb w) s t := by
        intro z hz ez
        obtain ⟨z1, z2⟩ := hz
        rw [z2]
        refine ⟨z1, FM_sI hS (by decide), ?_, ?_, ?_⟩
        · rw [gI_sI_ne (by decide)]; exact ha
        · rw [gI_sI (SK_isF hS (by decide +kernel))]; exact ez
        · rw [gI_sI_ne (by decide)]; exact hv
      by_cases c2 : (gI w 147 3) - (gI w 147 4) ≤ 2
      · rw [if_pos c2] at h
        rw [Int32.le_iff_toInt_le, hsub, two32] at c2
        exact all 1 (fin201 (SK_sI hS) (h _ rfl)) (by rw [if_pos (by omega)])
      · rw [if_neg c2] at h
        rw [Int32.le_iff_toInt_le, hsub, two32] at c2
        exact all 4 (fin201 (SK_sI hS) (h _ rfl)) (by rw [if_neg (by omega)])
    · rw [if_neg c1] at h
      rw [b2i_0, Bool.not_eq_false] at c1
      have hi := hin c1
      rw [rAt_in (by omega) hi hR.2.1, ecat] at c1
      have hg := isDg_b c1
      have est : tkE isDg (rb w) (rn w) (s + t) = tkE isDg (rb w) (rn w) (s + (t + 1)) := spn_t (n := rn w) (i := s + t) (by unfold rn; omega) c1
      have step : ∀ w0 : pm_W, FM [(147, 6)] [] w w0 → (gI w0 147 6).toInt = dgV (rb w) s (t + 1) → PS X k 201 245 [.ref 147, .int x, pm_dead] [] w0 r w' → r = none ∧ FM [(147, 3), (147, 5), (147, 6)] [] w w' ∧ (gI w' 147 3).toInt = (tkE isDg (rb w) (rn w) (s + t) : Nat) ∧ gI w' 147 5 = (if tkE isDg (rb w) (rn w) (s + t) ≤ s + 2 then 1 else 4) ∧ (gI w' 147 6).toInt = dgV (rb w) s (tkE isDg (rb w) (rn w) (s + t) - s) := by
        intro w0 f0 ev q
        cases k with
        | zero => exact (PS_0 q).elim
        | succ k =>
          have hS0 := f0.2.2.2
          have q := U201_245 hS0 q _ rfl
          have a0 : gI w0 147 3 = gI w 147 3 := FM_i f0 (by decide)
          obtain ⟨w1, e⟩ : ∃ w1, w1 = sI w0 147 3 (gI w0 147 3 + 1) := ⟨_, rfl⟩
          rw [← e] at q
          obtain ⟨f1, a1⟩ := nx_step hS0 e (by rw [a0, FM_i f0 (by decide)]; exact hi)
          have ff : FM [(147, 3), (147, 5), (147, 6)] [] w w1 := FM_trans (FM_mono f0 (by decide) (by decide)) (FM_mono f1 (by decide) (by decide))
          have b1 := rb_FM ff (by decide)
          have n1 := rn_FM ff (by decide)
          have q := ih w1 s (t + 1) x f1.2.2.2 (RB_FM hR ff (by decide) (by decide)) (by rw [FM_i ff (by decide)]; exact hp) (by rw [a1, a0]; omega) (by rw [b1, FM_i f1 (by decide)]; exact ev) (by
            intro j hj
            rw [b1]
            by_cases e : j = t
            · rw [e]; exact c1
            · exact hl j (by omega)) (PS_mono (Nat.le_succ _) q)
          rw [b1, n1, ← est] at q
          exact ⟨q.1, FM_trans ff q.2.1, q.2.2⟩
      by_cases c3 : 2 ≤ (gI w 147 3) - (gI w 147 4)
      · rw [if_pos c3] at h
        rw [Int32.le_iff_toInt_le, hsub, two32] at c3
        refine step w (FM_refl hS) ?_ h
        rw [hv]
        unfold dgV
        rw [if_neg (by omega), if_neg (by omega), if_neg (by omega), if_neg (by omega)]
      · rw [if_neg c3] at h
        rw [Int32.le_iff_toInt_le, hsub, two32] at c3
        have h := use_p hS h (fun _ _ q => F202 hS q)
        rw [rAt_in (by omega) hi hR.2.1, ecat] at h
        refine step _ (FM_sI hS (by decide)) ?_ (h _ rfl)
        rw [gI_sI (SK_isF hS (by decide +kernel))]
        have t48 : (48 : Int32).toInt = 48 := by decide +kernel
        have hvb : (gI w 147 6).toInt = (if t = 0 then 0 else (rb w s).toInt - 48) := by
          rw [hv]
          unfold dgV
          by_cases e : t = 0
          · rw [if_pos e, if_pos e]
          · rw [if_neg e, if_neg e, if_pos (by omega)]
        have hb0 : 0 ≤ (gI w 147 6).toInt ∧ (gI w 147 6).toInt ≤ 9 := by
          rw [hvb]
          by_cases e : t = 0
          · rw [if_pos e]; omega
          · rw [if_neg e]
            have := isDg_b (hl 0 (by omega))
            rw [Nat.add_zero] at this
            omega
        rw [zi_sub (zi_add (zi_mul ten32 rfl (by omega) (by omega)) rfl (by omega) (by omega)) t48 (by omega) (by omega), hvb]
        unfold dgV
        by_cases e : t = 0
        · subst e
          rw [if_pos rfl, if_neg (by omega), if_pos rfl, Nat.add_zero]
          omega
        · have e1 : t = 1 := by omega
          subst e1
          rw [if_neg (by omega), if_neg (by omega), if_neg (by omega)]
/-- the token behind: where, kind, end, number, word -/
def TKr (w w' : pm_W) : Prop := gI w' 147 5 = rTk (rb w) (rn w) (rat w) ∧ (gI w' 147 4).toInt = (tkS (rb w) (rn w) (rat w) : Nat) ∧ (gI w' 147 3).toInt = (tkN (rb w) (rn w) (rat w) : Nat) ∧ (tkK (rb w) (rn w) (rat w) = 2 → (gI w' 147 6).toInt = tkV (rb w) (rn w) (rat w)) ∧ (tkK (rb w) (rn w) (rat w) = 1 → gI w' 147 7 = wdC (rb w) (tkS (rb w) (rn w) (rat w)) (tkN (rb w) (rn w) (rat w)))
theorem F201 (hS : SK w) (hR : RB w) (h0 : 0 ≤ (gI w 147 3).toInt) (h : PS X k 201 0 [.ref 147, pm_dead, pm_dead] [] w r w') : r = none ∧ FM [(147, 3), (147, 4), (147, 5), (147, 6), (147, 7)] [] w w' ∧ TKr w w' := by
  obtain ⟨k1, w1, f1, a1, _, hb, h⟩ := F201_0 _ _ hS hR h0 h
  have hS1 := f1.2.2.2
  have hR1 := RB_FM hR f1 (by decide) (by decide)
  have h := U201_0 hS1 h
  have h := use_p hS1 h (fun _ _ q => F202 hS1 q)
  unfold isBl at hb
  rw [Bool.or_eq_false_iff] at hb
  rw [if_neg (of_decide_eq_false hb.1)] at h
  have h := use_p hS1 h (fun _ _ q => F202 hS1 q)
  rw [if_neg (of_decide_eq_false hb.2)] at h
  have h := h _ rfl
  obtain ⟨w2, e2⟩ : ∃ w2, w2 = sI w1 147 4 (gI w1 147 3) := ⟨_, rfl⟩
  rw [← e2] at h
  have hS2 : SK w2 := by rw [e2]; exact SK_sI hS1
  have f2 : FM [(147, 3), (147, 4), (147, 5), (147, 6), (147, 7)] [] w w2 := FM_trans (FM_mono f1 (by decide) (by decide)) (by rw [e2]; exact FM_sI hS1 (by decide))
  have a2 : gI w2 147 3 = gI w1 147 3 := by rw [e2]; exact gI_sI_ne (by decide)
  have p2 : gI w2 147 4 = gI w1 147 3 := by rw [e2]; exact gI_sI (SK_isF hS1 (by decide +kernel))
  have n2 : rn w2 = rn w := rn_FM f2 (by decide)
  have n2' : gI w2 147 2 = gI w 147 2 := FM_i f2 (by decide)
  have b2 : rb w2 = rb w := rb_FM f2 (by decide)
  have hR2 := RB_FM hR f2 (by decide) (by decide)
  obtain ⟨s, es⟩ : ∃ s, s = tkS (rb w) (rn w) (rat w) := ⟨_, rfl⟩
  rw [← es] at a1
  unfold TKr rTk tkK tkN tkV
  rw [← es]
  have h := use_p hS2 h (fun _ _ q => F202 hS2 q)
  by_cases c1 : (gI w2 147 2).toInt ≤ (gI w2 147 3).toInt
  · rw [rAt_out c1, if_neg (by decide +kernel)] at h
    rw [a2, n2', a1] at c1
    have hn : rn w ≤ s := by unfold rn; omega
    obtain ⟨z1, z2⟩ := fin201 (SK_sI hS2) (h _ rfl)
    rw [z2]
    simp only [if_pos hn]
    refine ⟨z1, FM_trans f2 (FM_sI hS2 (by decide)), ?_, ?_, ?_, fun z => absurd z (by decide), fun z => absurd z (by decide)⟩
    · exact gI_sI (SK_isF hS2 (by decide +kernel))
    · rw [gI_sI_ne (by decide), p2]; exact a1
    · rw [gI_sI_ne (by decide), a2]; exact a1
  · rw [rAt_in (by rw [a2, a1]; omega) (by omega) hR2.2.1, b2, a2, a1, show ((s : Int)).toNat = s from Int.toNat_natCast s] at h
    rw [a2, n2', a1] at c1
    have hn : ¬ rn w ≤ s := by unfold rn; omega
    have pos := hR.2.2 s (by omega)
    rw [if_pos (by rw [Int32.le_iff_toInt_le, z32]; exact pos)] at h
    simp only [if_neg hn]
    have h := use_p hS2 h (fun _ _ q => F203 hS2 q)
    by_cases c2 : b2i (isLt (rb w s)) = 0
    · rw [if_pos c2] at h
      rw [b2i_0] at c2
      rw [c2]
      simp only [Bool.false_eq_true, if_false]
      have h := use_p hS2 h (fun _ _ q => F206 hS2 q)
      by_cases c3 : b2i (isDg (rb w s)) = 0
      · rw [if_pos c3] at h
        rw [b2i_0] at c3
        rw [c3]
        simp only [Bool.false_eq_true, if_false]
        have h := h _ rfl
        have one : ∀ (z : Int32), FM [(147, 3), (147, 4), (147, 5), (147, 6), (147, 7)] [] w (sI (sI w2 147 3 ((gI w2 147 3) + 1)) 147 5 z) ∧ gI (sI (sI w2 147 3 ((gI w2 147 3) + 1)) 147 5 z) 147 5 = z ∧ (gI (sI (sI w2 147 3 ((gI w2 147 3) + 1)) 147 5 z) 147 4).toInt = s ∧ (gI (sI (sI w2 147 3 ((gI w2 147 3) + 1)) 147 5 z) 147 3).toInt = (s + 1 : Nat) := by
          intro z
          have hS3 : SK (sI w2 147 3 ((gI w2 147 3) + 1)) := SK_sI hS2
          refine ⟨FM_trans f2 (FM_trans (FM_sI hS2 (by decide)) (FM_sI hS3 (by decide))), ?_, ?_, ?_⟩
          · exact gI_sI (SK_isF hS3 (by decide +kernel))
          · rw [gI_sI_ne (by decide), gI_sI_ne (by decide), p2]; exact a1
          · rw [gI_sI_ne (by decide), gI_sI (SK_isF hS2 (by decide +kernel)), a2, zi_inc (n := (gI w 147 2).toInt) (by omega) (zi_hi _)]
            omega
        by_cases c4 : rb w s = 59
        · rw [if_pos c4] at h
          obtain ⟨z1, z2⟩ := fin201 (SK_sI (SK_sI hS2)) (h _ rfl)
          obtain ⟨q1, q2, q3, q4⟩ := one 2
          rw [z2]
          simp only [if_pos c4]
          exact ⟨z1, q1, q2, q3, q4, fun z => absurd z (by decide), fun z => absurd z (by decide)⟩
        · rw [if_neg c4] at h
          obtain ⟨z1, z2⟩ := fin201 (SK_sI (SK_sI hS2)) (h _ rfl)
          obtain ⟨q1, q2, q3, q4⟩ := one 4
          rw [z2]
          simp only [if_neg c4]
          exact ⟨z1, q1, q2, q3, q4, fun z => absurd z (by decide), fun z => absurd z (by decide)⟩
      · rw [if_neg c3] at h
        rw [b2i_0, Bool.not_eq_false] at c3
        rw [c3]
        simp only [if_true]
        have h := h _ rfl
        obtain ⟨w3, e3⟩ : ∃ w3, w3 = sI w2 147 6 0 := ⟨_, rfl⟩
        rw [← e3] at h
        have hS3 : SK w3 := by rw [e3]; exact SK_sI hS2
        have f3 : FM [(147, 3), (147, 4), (147, 5), (147, 6), (147, 7)] [] w w3 := FM_trans f2 (by rw [e3]; exact FM_sI hS2 (by decide))
        have q := F201_195 _ _ s 0 _ hS3 (RB_FM hR f3 (by decide) (by decide)) (by rw [e3, gI_sI_ne (by decide), p2]; exact a1) (by rw [e3, gI_sI_ne (by decide), a2]; exact a1) (by rw [e3, gI_sI (SK_isF hS2 (by decide +kernel))]; rfl) (fun j hj => absurd hj (Nat.not_lt_zero j)) h
        rw [rb_FM f3 (by decide), rn_FM f3 (by decide), Nat.add_zero] at q
        obtain ⟨q1, q2, q3, q4, q5⟩ := q
        refine ⟨q1, FM_trans f3 (FM_mono q2 (by decide) (by decide)), ?_, ?_, q3, fun _ => q5, ?_⟩
        · rw [q4]
          by_cases c : tkE isDg (rb w) (rn w) s ≤ s + 2
          · simp only [if_pos c]
          · simp only [if_neg c]
        · rw [FM_i q2 (by decide), e3, gI_sI_ne (by decide), p2]; exact a1
        · intro z
          by_cases c : tkE isDg (rb w) (rn w) s ≤ s + 2
          · rw [if_pos c] at z; exact absurd z (by decide)
          · rw [if_neg c] at z; exact absurd z (by decide)
    · rw [if_neg c2] at h
      rw [b2i_0, Bool.not_eq_false] at c2
      rw [c2]
      simp only [if_true]
      have q := F201_77 _ _ s 0 _ _ hS2 hR2 (by rw [p2]; exact a1) (by rw [a2]; exact a1) (show (0 : Int32).toInt = _ from z32) (fun j hj => absurd hj (Nat.not_lt_zero j)) h
      rw [b2, n2, Nat.add_zero] at q
      obtain ⟨q1, q2, q3, q4, q5⟩ := q
      refine ⟨q1, FM_trans f2 (FM_mono q2 (by decide) (by decide)), q5, ?_, q3, fun z => absurd z (by decide), fun _ => q4⟩
      rw [FM_i q2 (by decide), p2]; exact a1
end FE
end
section
/-! ===== the class's words ===== -/
section FF
variable {X : pm_X} {k : Nat} {w w' : pm_W} {r : Option Value} {p p1 p2 p3 : Int32} {s : Nat}
/-- a verb's letters -/
def vTx (v : Nat) : List Int32 := (xA pg_arr (21 + 2 * v))
theorem XO_A (hX : XO X) {j : Nat} (h : 1 ≤ j) : xA X j = xA pg_arr j ∧ xB X j = xB pg_arr j := by
  unfold xA xB
  rw [hX j h]
  exact ⟨rfl, rfl⟩
theorem F34 (hS : SK w) (h : PS X k 34 0 [.retAddr s] [] w r w') : r = some (.int 0) ∧ w' = w := by
  cases k with
  | zero => exact (PS_0 h).elim
  | succ k => exact U34_0 hS h
theorem F33 (hS : SK w) (h : PS X k 33 0 [.retAddr s] [] w r w') : r = some (.int ((Int32.ofNat (xA X (xB X s)).length) >>> ((0 : Int32) &&& 31))) ∧ w' = w := by
  cases k with
  | zero => exact (PS_0 h).elim
  | succ k =>
    have h := U33_0 hS h
    exact use_p hS h (fun _ _ q => F34 hS q)
theorem F36 (hS : SK w) (h : PS X k 36 0 [.retAddr s] [] w r w') : r = some (.int 1) ∧ w' = w := by
  cases k with
  | zero => exact (PS_0 h).elim
  | succ k => exact U36_0 hS h
theorem F39 {q3 : Nat} (hS : SK w) (h : PS X k 39 0 [.int p1, .int p2, .retAddr q3] [] w r w') : r = some (.int p1) ∧ w' = w := by
  cases k with
  | zero => exact (PS_0 h).elim
  | succ k =>
    have h := U39_0 hS h
    by_cases c1 : p1 < 0
    · rw [if_pos c1] at h
      exact h.elim
    · rw [if_neg c1] at h
      by_cases c2 : p1 < p2
      · rw [if_pos c2] at h
        exact h
      · rw [if_neg c2] at h
        exact h.elim
theorem F38 (hS : SK w) (h : PS X k 38 0 [.int p1, .int p2] [] w r w') : r = none ∧ w' = w := by
  cases k with
  | zero => exact (PS_0 h).elim
  | succ k => exact use_p hS (U38_0 hS h) (fun _ _ q => F39 hS q)
def chr (b : Int32) : Int32 := ((b &&& 255).toUInt32 % 65536).toInt32
theorem F37 {q1 : Nat} (hS : SK w) (h : PS X k 37 0 [.retAddr q1, .int p2] [] w r w') : iN p2 (xA X q1).length ∧ r = some (.int (chr ((xA X q1).getD p2.toNatClampNeg 0))) ∧ w' = w := by
  cases k with
  | zero => exact (PS_0 h).elim
  | succ k =>
    obtain ⟨r1, w2, h1, h2⟩ := U37_0 hS h
    obtain ⟨e, q⟩ := F38 hS h1
    subst q
    exact h2 e hS
theorem F35 (hS : SK w) (h : PS X k 35 0 [.retAddr s, .int p1] [] w r w') : iN p1 (xA X (xB X s)).length ∧ r = some (.int (chr ((xA X (xB X s)).getD p1.toNatClampNeg 0))) ∧ w' = w := by
  cases k with
  | zero => exact (PS_0 h).elim
  | succ k =>
    have h := use_p hS (U35_0 hS h) (fun _ _ q => F36 hS q)
    rw [if_neg (by decide +kernel)] at h
    obtain ⟨r1, w2, h1, h2⟩ := h
    obtain ⟨i, e, q⟩ := F37 hS h1
    subst q
    exact ⟨i, h2 _ e hS⟩
theorem F31 (hS : SK w) {v : Nat} (hv : p.toInt = v) (h12 : v ≤ 12) (h : PS X k 31 0 [.int p] [] w r w') : r = some (.retAddr (20 + 2 * v)) ∧ w' = w := by
  cases k with
  | zero => exact (PS_0 h).elim
  | succ k =>
    have h := U31_0 hS h
    have g : ∀ (q : Int32) (n : Nat), q.toInt = n → (p = q ↔ v = n) := by
      intro q n hq
      rw [← Int32.toInt_inj, hv, hq]
      omega
    by_cases c0 : p = 0
    · rw [if_pos c0] at h
      rw [(g 0 0 (by decide +kernel)).mp c0]
      exact h
    rw [if_neg c0] at h
    rw [g 0 0 (by decide +kernel)] at c0
    by_cases c1 : p = 1
    · rw [if_pos c1] at h
      rw [(g 1 1 (by decide +kernel)).mp c1]
      exact h
    rw [if_neg c1] at h
    rw [g 1 1 (by decide +kernel)] at c1
    by_cases c2 : p = 2
    · rw [if_pos c2] at h
      rw [(g 2 2 (by decide +kernel)).mp c2]
      exact h
    rw [if_neg c2] at h
    rw [g 2 2 (by decide +kernel)] at c2
    by_cases c3 : p = 3
    · rw [if_pos c3] at h
      rw [(g 3 3 (by decide +kernel)).mp c3]
      exact h
    rw [if_neg c3] at h
    rw [g 3 3 (by decide +kernel)] at c3
    by_cases c4 : p = 4
    · rw [if_pos c4] at h
      rw [(g 4 4 (by decide +kernel)).mp c4]
      exact h
    rw [if_neg c4] at h
    rw [g 4 4 (by decide +kernel)] at c4
    by_cases c5 : p = 5
    · rw [if_pos c5] at h
      rw [(g 5 5 (by decide +kernel)).mp c5]
      exact h
    rw [if_neg c5] at h
    rw [g 5 5 (by decide +kernel)] at c5
    by_cases c6 : p = 6
    · rw [if_pos c6] at h
      rw [(g 6 6 (by decide +kernel)).mp c6]
      exact h
    rw [if_neg c6] at h
    rw [g 6 6 (by decide +kernel)] at c6
    by_cases c7 : p = 7
    · rw [if_pos c7] at h
      rw [(g 7 7 (by decide +kernel)).mp c7]
      exact h
    rw [if_neg c7] at h
    rw [g 7 7 (by decide +kernel)] at c7
    by_cases c8 : p = 8
    · rw [if_pos c8] at h
      rw [(g 8 8 (by decide +kernel)).mp c8]
      exact h
    rw [if_neg c8] at h
    rw [g 8 8 (by decide +kernel)] at c8
    by_cases c9 : p = 9
    · rw [if_pos c9] at h
      rw [(g 9 9 (by decide +kernel)).mp c9]
      exact h
    rw [if_neg c9] at h
    rw [g 9 9 (by decide +kernel)] at c9
    by_cases c10 : p = 10
    · rw [if_pos c10] at h
      rw [(g 10 10 (by decide +kernel)).mp c10]
      exact h
    rw [if_neg c10] at h
    rw [g 10 10 (by decide +kernel)] at c10
    by_cases c11 : p = 11
    · rw [if_pos c11] at h
      rw [(g 11 11 (by decide +kernel)).mp c11]
      exact h
    rw [if_neg c11] at h
    rw [g 11 11 (by decide +kernel)] at c11
    rw [show v = 12 by omega]
    exact h
/-- the letters from s to e are those -/
def mtc (bs : Nat → Int32) (s e : Nat) (tx : List Int32) : Prop := e - s = tx.length ∧ ∀ i, i < tx.length → bs (s + i) = tx.getD i 0
theorem vT_len {v : Nat} (h : v ≤ 12) : (vTx v).length ≤ 6 ∧ 1 ≤ (vTx v).length ∧ (vTx v).map chr = vTx v ∧ xA pg_arr (xB pg_arr (20 + 2 * v)) = vTx v := by
  have c : v = 0 ∨ v = 1 ∨ v = 2 ∨ v = 3 ∨ v = 4 ∨ v = 5 ∨ v = 6 ∨ v = 7 ∨ v = 8 ∨ v = 9 ∨ v = 10 ∨ v = 11 ∨ v = 12 := by omega
  rcases c with rfl | rfl | rfl | rfl | rfl | rfl | rfl | rfl | rfl | rfl | rfl | rfl | rfl <;> decide +kernel
theorem i_nat {x : Int32} {n : Nat} (h : x.toInt = n) : x.toNatClampNeg = n := by
  have q : x.toNatClampNeg = x.toInt.toNat := rfl
  omega
theorem len_i {n : Nat} (h : n ≤ 6) : (Int32.ofNat n >>> ((0 : Int32) &&& 31)).toInt = n := by
  have c : n = 0 ∨ n = 1 ∨ n = 2 ∨ n = 3 ∨ n = 4 ∨ n = 5 ∨ n = 6 := by omega
  rcases c with rfl | rfl | rfl | rfl | rfl | rfl | rfl <;> decide +kernel
theorem F32_20 (hX : XO X) {v : Nat} (h12 : v ≤ 12) {s0 e0 : Nat} : ∀ (k : Nat) (w : pm_W) (i : Nat) (x : Int32), SK w → x.toInt = i → (gI w 23 7).toInt = s0 → e0 ≤ cn w → e0 - s0 = (vTx v).length → s0 ≤ e0 → i ≤ (vTx v).length → (∀ j, j < i → cb w (s0 + j) = (vTx v).getD j 0) → PS X k 32 20 [.ref 23, .retAddr (20 + 2 * v), .int x] [] w r w' → w' = w ∧ ∃ b : Bool, r = some (.int (b2i b)) ∧ (b = true ↔ mtc (cb w) s0 e0 (vTx v)) := by
  obtain ⟨l6, l1, lc, lx⟩ := vT_len h12
  have ex : xA X (xB X (20 + 2 * v)) = vTx v := by
    rw [(XO_A hX (by omega)).2]
    have q : 1 ≤ xB pg_arr (20 + 2 * v) := by
      have c : v = 0 ∨ v = 1 ∨ v = 2 ∨ v = 3 ∨ v = 4 ∨ v = 5 ∨ v = 6 ∨ v = 7 ∨ v = 8 ∨ v = 9 ∨ v = 10 ∨ v = 11 ∨ v = 12 := by omega
      rcases c with rfl | rfl | rfl | rfl | rfl | rfl | rfl | rfl | rfl | rfl | rfl | rfl | rfl <;> decide +kernel
    rw [(XO_A hX q).1]
    exact lx
  intro k
  induction k with
  | zero => intro w i x hS hx hp hn hl hse hi hm h; exact (PS_0 h).elim
  | succ k ih =>
    intro w i x hS hx hp hn hl hse hi hm h
    have h := use_p hS (U32_20 hS h) (fun _ _ q => F33 hS q)
    rw [ex] at h
    by_cases c1 : (Int32.ofNat (vTx v).length) >>> ((0 : Int32) &&& 31) ≤ x
    · rw [if_pos c1] at h
      rw [Int32.le_iff_toInt_le, len_i l6, hx] at c1
      refine ⟨h.2, true, h.1, fun _ => ⟨hl, fun j hj => hm j (by omega)⟩, fun _ => rfl⟩
    · rw [if_neg c1] at h
      rw [Int32.le_iff_toInt_le, len_i l6, hx] at c1
      have h := use_p hS h (fun _ _ q => F24 hS q)
      have hcn : (cn w : Int) = max 0 (gI w 23 4).toInt := by unfold cn; omega
      have hh := zi_hi (gI w 23 4)
      have ea : (gI w 23 7 + x).toInt = (s0 + i : Nat) := by
        rw [zi_add hp hx (by omega) (by omega)]
        omega
      rw [bAt_in (by omega) (by rw [ea]; omega), ea, Int.toNat_natCast] at h
      obtain ⟨r1, w2, h1, h2⟩ := h
      obtain ⟨hi2, e, q⟩ := F35 hS h1
      subst w2
      have h := h2 _ e hS
      rw [ex, i_nat hx] at h
      have ec : chr ((vTx v).getD i 0) = (vTx v).getD i 0 := by
        have q : ((vTx v).map chr)[i]? = (vTx v)[i]? := by rw [lc]
        rw [List.getElem?_map, List.getElem?_eq_getElem (show i < (vTx v).length by omega)] at q
        rw [List.getD_eq_getElem?_getD, List.getElem?_eq_getElem (show i < (vTx v).length by omega)]
        exact Option.some.inj q
      rw [ec] at h
      by_cases c2 : cb w (s0 + i) = (vTx v).getD i 0
      · rw [if_pos c2] at h
        refine ih w (i + 1) (x + 1) hS (by rw [zi_inc (n := 6) (by omega) (by omega), hx]; rfl) hp hn hl hse (by omega) (fun j hj => ?_) h
        by_cases e : j = i
        · rw [e]; exact c2
        · exact hm j (by omega)
      · rw [if_neg c2] at h
        refine ⟨h.2, false, h.1, fun z => (Bool.false_ne_true z).elim, fun z => absurd (z.2 i (by omega)) c2⟩
theorem F32 (hX : XO X) (hS : SK w) {v : Nat} (h12 : v ≤ 12) {s0 e0 : Nat} (hp : (gI w 23 7).toInt = s0) (ha : (gI w 23 5).toInt = e0) (hse : s0 ≤ e0) (hn : e0 ≤ cn w) (h : PS X k 32 0 [.ref 23, .retAddr (20 + 2 * v), pm_dead] [] w r w') : w' = w ∧ ∃ b : Bool, r = some (.int (b2i b)) ∧ (b = true ↔ mtc (cb w) s0 e0 (vTx v)) := by
  obtain ⟨l6, l1, lc, lx⟩ := vT_len h12
  have ex : xA X (xB X (20 + 2 * v)) = vTx v := by
    rw [(XO_A hX (by omega)).2]
    have q : 1 ≤ xB pg_arr (20 + 2 * v) := by
      have c : v = 0 ∨ v = 1 ∨ v = 2 ∨ v = 3 ∨ v = 4 ∨ v = 5 ∨ v = 6 ∨ v = 7 ∨ v = 8 ∨ v = 9 ∨ v = 10 ∨ v = 11 ∨ v = 12 := by omega
      rcases c with rfl | rfl | rfl | rfl | rfl | rfl | rfl | rfl | rfl | rfl | rfl | rfl | rfl <;> decide +kernel
    rw [(XO_A hX q).1]
    exact lx
  cases k with
  | zero => exact (PS_0 h).elim
  | succ k =>
    have h := use_p hS (U32_0 hS h) (fun _ _ q => F33 hS q)
    rw [ex] at h
    have hh := zi_hi (gI w 23 5)
    have hd : (gI w 23 5 - gI w 23 7).toInt = (e0 - s0 : Nat) := by
      rw [zi_sub ha hp (by omega) (by omega)]
      omega
    by_cases c1 : (gI w 23 5) - (gI w 23 7) = (Int32.ofNat (vTx v).length) >>> ((0 : Int32) &&& 31)
    · rw [if_pos c1] at h
      rw [← Int32.toInt_inj, hd, len_i l6] at c1
      exact F32_20 hX h12 k w 0 0 hS z32 hp hn (by omega) hse (by omega) (fun j hj => absurd hj (Nat.not_lt_zero j)) h
    · rw [if_neg c1] at h
      rw [← Int32.toInt_inj, hd, len_i l6] at c1
      refine ⟨h.2, false, h.1, fun z => (Bool.false_ne_true z).elim, fun z => absurd z.1 (by omega)⟩
/-- the first verb from v0 on, m at most, whose letters those are -/
theorem F30_36 (hX : XO X) {s0 e0 b0 : Nat} {i1 i2 i3 : Int32} (hb : i3.toInt = b0) (h13 : b0 ≤ 13) : ∀ (k : Nat) (w : pm_W) (v : Nat) (x : Int32), SK w → x.toInt = v → (gI w 23 7).toInt = s0 → (gI w 23 5).toInt = e0 → s0 ≤ e0 → e0 ≤ cn w → PS X k 30 36 [.ref 23, .int i1, .int i2, .int i3, .int x] [] w r w' → w' = w ∧ ((r = some (.int (-1)) ∧ ∀ u, v ≤ u → u < b0 → ¬ mtc (cb w) s0 e0 (vTx u)) ∨ ∃ (u : Nat) (y : Int32), r = some (.int y) ∧ y.toInt = u ∧ v ≤ u ∧ u < b0 ∧ mtc (cb w) s0 e0 (vTx u)) := by
  intro k
  induction k with
  | zero => intro w v x hS hx hp ha hse hn h; exact (PS_0 h).elim
  | succ k ih =>
    intro w v x hS hx hp ha hse hn h
    have h := U30_36 hS h
    by_cases c1 : i3 ≤ x
    · rw [if_pos c1] at h
      rw [Int32.le_iff_toInt_le, hb, hx] at c1
      exact ⟨h.2, Or.inl ⟨h.1, fun u h1 h2 => by omega⟩⟩
    · rw [if_neg c1] at h
      rw [Int32.le_iff_toInt_le, hb, hx] at c1
      obtain ⟨r1, w2, h1, h2⟩ := h
      obtain ⟨e, q⟩ := F31 hS hx (by omega) h1
      subst w2
      obtain ⟨r2, w3, h3, h4⟩ := h2 _ e hS
      obtain ⟨q, b, e2, hbm⟩ := F32 hX hS (by omega) hp ha hse hn h3
      subst w3
      have h := h4 _ e2 hS
      cases b with
      | true =>
        rw [if_neg (by decide +kernel)] at h
        exact ⟨h.2, Or.inr ⟨v, x, h.1, hx, Nat.le_refl _, by omega, hbm.mp rfl⟩⟩
      | false =>
        rw [if_pos (by decide +kernel)] at h
        have no : ¬ mtc (cb w) s0 e0 (vTx v) := fun z => Bool.false_ne_true (hbm.mpr z)
        obtain ⟨g1, g2⟩ := ih w (v + 1) (x + 1) hS (by rw [zi_inc (n := 13) (by omega) (by omega), hx]; rfl) hp ha hse hn h
        refine ⟨g1, ?_⟩
        rcases g2 with ⟨g2, g3⟩ | ⟨u, y, g2, g3, g4, g5, g6⟩
        · refine Or.inl ⟨g2, fun u h1 h2 => ?_⟩
          by_cases e : u = v
          · rw [e]; exact no
          · exact g3 u (by omega) h2
        · exact Or.inr ⟨u, y, g2, g3, by omega, g5, g6⟩
end FF
end
section
/-! ===== a word is known by the number that its letters make ===== -/
section FG
variable {bs : Nat → Int32} {s e t : Nat}
theorem wdV_s (h : t < 6) : wdV bs s (t + 1) = 32 * wdV bs s t + (bs (s + t)).toInt - 96 := if_pos h
theorem wdV_0 : wdV bs s 0 = 0 := rfl
/-- the verb's code, the number of its letters -/
def vC (v : Nat) : Int32 := match v with
  | 0 => 11
  | 1 => 12
  | 2 => 13
  | 3 => 14
  | 4 => 15
  | 5 => 16
  | 6 => 1
  | 7 => 2
  | 8 => 3
  | 9 => 4
  | 10 => 5
  | 11 => 6
  | _ => 7
def vN (v : Nat) : Int := match v with
  | 0 => 16101
  | 1 => 16441
  | 2 => 599495
  | 3 => 659105125
  | 4 => 197932
  | 5 => 14137992
  | 6 => 542622085
  | 7 => 769604
  | 8 => 1420
  | 9 => 6309
  | 10 => 599659
  | 11 => 20317291
  | _ => 755156
theorem wm_0 (h1 : 1 ≤ t) (h6 : t ≤ 6) (hl : ∀ j, j < t → isLt (bs (s + j)) = true) : wdV bs s t = 16101 ↔ t = 3 ∧ (bs (s + 0)).toInt = 111 ∧ (bs (s + 1)).toInt = 119 ∧ (bs (s + 2)).toInt = 101 := by
  have c : t = 1 ∨ t = 2 ∨ t = 3 ∨ t = 4 ∨ t = 5 ∨ t = 6 := by omega
  rcases c with rfl | rfl | rfl | rfl | rfl | rfl
  · have b0 := isLt_b (hl 0 (by omega))
    rw [wdV_s (t := 0) (by decide), wdV_0]
    omega
  · have b0 := isLt_b (hl 0 (by omega))
    have b1 := isLt_b (hl 1 (by omega))
    rw [wdV_s (t := 1) (by decide), wdV_s (t := 0) (by decide), wdV_0]
    omega
  · have b0 := isLt_b (hl 0 (by omega))
    have b1 := isLt_b (hl 1 (by omega))
    have b2 := isLt_b (hl 2 (by omega))
    rw [wdV_s (t := 2) (by decide), wdV_s (t := 1) (by decide), wdV_s (t := 0) (by decide), wdV_0]
    omega
  · have b0 := isLt_b (hl 0 (by omega))
    have b1 := isLt_b (hl 1 (by omega))
    have b2 := isLt_b (hl 2 (by omega))
    have b3 := isLt_b (hl 3 (by omega))
    rw [wdV_s (t := 3) (by decide), wdV_s (t := 2) (by decide), wdV_s (t := 1) (by decide), wdV_s (t := 0) (by decide), wdV_0]
    omega
  · have b0 := isLt_b (hl 0 (by omega))
    have b1 := isLt_b (hl 1 (by omega))
    have b2 := isLt_b (hl 2 (by omega))
    have b3 := isLt_b (hl 3 (by omega))
    have b4 := isLt_b (hl 4 (by omega))
    rw [wdV_s (t := 4) (by decide), wdV_s (t := 3) (by decide), wdV_s (t := 2) (by decide), wdV_s (t := 1) (by decide), wdV_s (t := 0) (by decide), wdV_0]
    omega
  · have b0 := isLt_b (hl 0 (by omega))
    have b1 := isLt_b (hl 1 (by omega))
    have b2 := isLt_b (hl 2 (by omega))
    have b3 := isLt_b (hl 3 (by omega))
    have b4 := isLt_b (hl 4 (by omega))
    have b5 := isLt_b (hl 5 (by omega))
    rw [wdV_s (t := 5) (by decide), wdV_s (t := 4) (by decide), wdV_s (t := 3) (by decide), wdV_s (t := 2) (by decide), wdV_s (t := 1) (by decide), wdV_s (t := 0) (by decide), wdV_0]
    omega
theorem wm_1 (h1 : 1 ≤ t) (h6 : t ≤ 6) (hl : ∀ j, j < t → isLt (bs (s + j)) = true) : wdV bs s t = 16441 ↔ t = 3 ∧ (bs (s + 0)).toInt = 112 ∧ (bs (s + 1)).toInt = 97 ∧ (bs (s + 2)).toInt = 121 := by
  have c : t = 1 ∨ t = 2 ∨ t = 3 ∨ t = 4 ∨ t = 5 ∨ t = 6 := by omega
  rcases c with rfl | rfl | rfl | rfl | rfl | rfl
  · have b0 := isLt_b (hl 0 (by omega))
    rw [wdV_s (t := 0) (by decide), wdV_0]
    omega
  · have b0 := isLt_b (hl 0 (by omega))
    have b1 := isLt_b (hl 1 (by omega))
    rw [wdV_s (t := 1) (by decide), wdV_s (t := 0) (by decide), wdV_0]
    omega
  · have b0 := isLt_b (hl 0 (by omega))
    have b1 := isLt_b (hl 1 (by omega))
    have b2 := isLt_b (hl 2 (by omega))
    rw [wdV_s (t := 2) (by decide), wdV_s (t := 1) (by decide), wdV_s (t := 0) (by decide), wdV_0]
    omega
  · have b0 := isLt_b (hl 0 (by omega))
    have b1 := isLt_b (hl 1 (by omega))
    have b2 := isLt_b (hl 2 (by omega))
    have b3 := isLt_b (hl 3 (by omega))
    rw [wdV_s (t := 3) (by decide), wdV_s (t := 2) (by decide), wdV_s (t := 1) (by decide), wdV_s (t := 0) (by decide), wdV_0]
    omega
  · have b0 := isLt_b (hl 0 (by omega))
    have b1 := isLt_b (hl 1 (by omega))
    have b2 := isLt_b (hl 2 (by omega))
    have b3 := isLt_b (hl 3 (by omega))
    have b4 := isLt_b (hl 4 (by omega))
    rw [wdV_s (t := 4) (by decide), wdV_s (t := 3) (by decide), wdV_s (t := 2) (by decide), wdV_s (t := 1) (by decide), wdV_s (t := 0) (by decide), wdV_0]
    omega
  · have b0 := isLt_b (hl 0 (by omega))
    have b1 := isLt_b (hl 1 (by omega))
    have b2 := isLt_b (hl 2 (by omega))
    have b3 := isLt_b (hl 3 (by omega))
    have b4 := isLt_b (hl 4 (by omega))
    have b5 := isLt_b (hl 5 (by omega))
    rw [wdV_s (t := 5) (by decide), wdV_s (t := 4) (by decide), wdV_s (t := 3) (by decide), wdV_s (t := 2) (by decide), wdV_s (t := 1) (by decide), wdV_s (t := 0) (by decide), wdV_0]
    omega
theorem wm_2 (h1 : 1 ≤ t) (h6 : t ≤ 6) (hl : ∀ j, j < t → isLt (bs (s + j)) = true) : wdV bs s t = 599495 ↔ t = 4 ∧ (bs (s + 0)).toInt = 114 ∧ (bs (s + 1)).toInt = 105 ∧ (bs (s + 2)).toInt = 110 ∧ (bs (s + 3)).toInt = 103 := by
  have c : t = 1 ∨ t = 2 ∨ t = 3 ∨ t = 4 ∨ t = 5 ∨ t = 6 := by omega
  rcases c with rfl | rfl | rfl | rfl | rfl | rfl
  · have b0 := isLt_b (hl 0 (by omega))
    rw [wdV_s (t := 0) (by decide), wdV_0]
    omega
  · have b0 := isLt_b (hl 0 (by omega))
    have b1 := isLt_b (hl 1 (by omega))
    rw [wdV_s (t := 1) (by decide), wdV_s (t := 0) (by decide), wdV_0]
    omega
  · have b0 := isLt_b (hl 0 (by omega))
    have b1 := isLt_b (hl 1 (by omega))
    have b2 := isLt_b (hl 2 (by omega))
    rw [wdV_s (t := 2) (by decide), wdV_s (t := 1) (by decide), wdV_s (t := 0) (by decide), wdV_0]
    omega
  · have b0 := isLt_b (hl 0 (by omega))
    have b1 := isLt_b (hl 1 (by omega))
    have b2 := isLt_b (hl 2 (by omega))
    have b3 := isLt_b (hl 3 (by omega))
    rw [wdV_s (t := 3) (by decide), wdV_s (t := 2) (by decide), wdV_s (t := 1) (by decide), wdV_s (t := 0) (by decide), wdV_0]
    omega
  · have b0 := isLt_b (hl 0 (by omega))
    have b1 := isLt_b (hl 1 (by omega))
    have b2 := isLt_b (hl 2 (by omega))
    have b3 := isLt_b (hl 3 (by omega))
    have b4 := isLt_b (hl 4 (by omega))
    rw [wdV_s (t := 4) (by decide), wdV_s (t := 3) (by decide), wdV_s (t := 2) (by decide), wdV_s (t := 1) (by decide), wdV_s (t := 0) (by decide), wdV_0]
    omega
  · have b0 := isLt_b (hl 0 (by omega))
    have b1 := isLt_b (hl 1 (by omega))
    have b2 := isLt_b (hl 2 (by omega))
    have b3 := isLt_b (hl 3 (by omega))
    have b4 := isLt_b (hl 4 (by omega))
    have b5 := isLt_b (hl 5 (by omega))
    rw [wdV_s (t := 5) (by decide), wdV_s (t := 4) (by decide), wdV_s (t := 3) (by decide), wdV_s (t := 2) (by decide), wdV_s (t := 1) (by decide), wdV_s (t := 0) (by decide), wdV_0]
    omega
theorem wm_3 (h1 : 1 ≤ t) (h6 : t ≤ 6) (hl : ∀ j, j < t → isLt (bs (s + j)) = true) : wdV bs s t = 659105125 ↔ t = 6 ∧ (bs (s + 0)).toInt = 115 ∧ (bs (s + 1)).toInt = 116 ∧ (bs (s + 2)).toInt = 114 ∧ (bs (s + 3)).toInt = 105 ∧ (bs (s + 4)).toInt = 107 ∧ (bs (s + 5)).toInt = 101 := by
  have c : t = 1 ∨ t = 2 ∨ t = 3 ∨ t = 4 ∨ t = 5 ∨ t = 6 := by omega
  rcases c with rfl | rfl | rfl | rfl | rfl | rfl
  · have b0 := isLt_b (hl 0 (by omega))
    rw [wdV_s (t := 0) (by decide), wdV_0]
    omega
  · have b0 := isLt_b (hl 0 (by omega))
    have b1 := isLt_b (hl 1 (by omega))
    rw [wdV_s (t := 1) (by decide), wdV_s (t := 0) (by decide), wdV_0]
    omega
  · have b0 := isLt_b (hl 0 (by omega))
    have b1 := isLt_b (hl 1 (by omega))
    have b2 := isLt_b (hl 2 (by omega))
    rw [wdV_s (t := 2) (by decide), wdV_s (t := 1) (by decide), wdV_s (t := 0) (by decide), wdV_0]
    omega
  · have b0 := isLt_b (hl 0 (by omega))
    have b1 := isLt_b (hl 1 (by omega))
    have b2 := isLt_b (hl 2 (by omega))
    have b3 := isLt_b (hl 3 (by omega))
    rw [wdV_s (t := 3) (by decide), wdV_s (t := 2) (by decide), wdV_s (t := 1) (by decide), wdV_s (t := 0) (by decide), wdV_0]
    omega
  · have b0 := isLt_b (hl 0 (by omega))
    have b1 := isLt_b (hl 1 (by omega))
    have b2 := isLt_b (hl 2 (by omega))
    have b3 := isLt_b (hl 3 (by omega))
    have b4 := isLt_b (hl 4 (by omega))
    rw [wdV_s (t := 4) (by decide), wdV_s (t := 3) (by decide), wdV_s (t := 2) (by decide), wdV_s (t := 1) (by decide), wdV_s (t := 0) (by decide), wdV_0]
    omega
  · have b0 := isLt_b (hl 0 (by omega))
    have b1 := isLt_b (hl 1 (by omega))
    have b2 := isLt_b (hl 2 (by omega))
    have b3 := isLt_b (hl 3 (by omega))
    have b4 := isLt_b (hl 4 (by omega))
    have b5 := isLt_b (hl 5 (by omega))
    rw [wdV_s (t := 5) (by decide), wdV_s (t := 4) (by decide), wdV_s (t := 3) (by decide), wdV_s (t := 2) (by decide), wdV_s (t := 1) (by decide), wdV_s (t := 0) (by decide), wdV_0]
    omega
theorem wm_4 (h1 : 1 ≤ t) (h6 : t ≤ 6) (hl : ∀ j, j < t → isLt (bs (s + j)) = true) : wdV bs s t = 197932 ↔ t = 4 ∧ (bs (s + 0)).toInt = 102 ∧ (bs (s + 1)).toInt = 97 ∧ (bs (s + 2)).toInt = 105 ∧ (bs (s + 3)).toInt = 108 := by
  have c : t = 1 ∨ t = 2 ∨ t = 3 ∨ t = 4 ∨ t = 5 ∨ t = 6 := by omega
  rcases c with rfl | rfl | rfl | rfl | rfl | rfl
  · have b0 := isLt_b (hl 0 (by omega))
    rw [wdV_s (t := 0) (by decide), wdV_0]
    omega
  · have b0 := isLt_b (hl 0 (by omega))
    have b1 := isLt_b (hl 1 (by omega))
    rw [wdV_s (t := 1) (by decide), wdV_s (t := 0) (by decide), wdV_0]
    omega
  · have b0 := isLt_b (hl 0 (by omega))
    have b1 := isLt_b (hl 1 (by omega))
    have b2 := isLt_b (hl 2 (by omega))
    rw [wdV_s (t := 2) (by decide), wdV_s (t := 1) (by decide), wdV_s (t := 0) (by decide), wdV_0]
    omega
  · have b0 := isLt_b (hl 0 (by omega))
    have b1 := isLt_b (hl 1 (by omega))
    have b2 := isLt_b (hl 2 (by omega))
    have b3 := isLt_b (hl 3 (by omega))
    rw [wdV_s (t := 3) (by decide), wdV_s (t := 2) (by decide), wdV_s (t := 1) (by decide), wdV_s (t := 0) (by decide), wdV_0]
    omega
  · have b0 := isLt_b (hl 0 (by omega))
    have b1 := isLt_b (hl 1 (by omega))
    have b2 := isLt_b (hl 2 (by omega))
    have b3 := isLt_b (hl 3 (by omega))
    have b4 := isLt_b (hl 4 (by omega))
    rw [wdV_s (t := 4) (by decide), wdV_s (t := 3) (by decide), wdV_s (t := 2) (by decide), wdV_s (t := 1) (by decide), wdV_s (t := 0) (by decide), wdV_0]
    omega
  · have b0 := isLt_b (hl 0 (by omega))
    have b1 := isLt_b (hl 1 (by omega))
    have b2 := isLt_b (hl 2 (by omega))
    have b3 := isLt_b (hl 3 (by omega))
    have b4 := isLt_b (hl 4 (by omega))
    have b5 := isLt_b (hl 5 (by omega))
    rw [wdV_s (t := 5) (by decide), wdV_s (t := 4) (by decide), wdV_s (t := 3) (by decide), wdV_s (t := 2) (by decide), wdV_s (t := 1) (by decide), wdV_s (t := 0) (by decide), wdV_0]
    omega
theorem wm_5 (h1 : 1 ≤ t) (h6 : t ≤ 6) (hl : ∀ j, j < t → isLt (bs (s + j)) = true) : wdV bs s t = 14137992 ↔ t = 5 ∧ (bs (s + 0)).toInt = 109 ∧ (bs (s + 1)).toInt = 111 ∧ (bs (s + 2)).toInt = 110 ∧ (bs (s + 3)).toInt = 116 ∧ (bs (s + 4)).toInt = 104 := by
  have c : t = 1 ∨ t = 2 ∨ t = 3 ∨ t = 4 ∨ t = 5 ∨ t = 6 := by omega
  rcases c with rfl | rfl | rfl | rfl | rfl | rfl
  · have b0 := isLt_b (hl 0 (by omega))
    rw [wdV_s (t := 0) (by decide), wdV_0]
    omega
  · have b0 := isLt_b (hl 0 (by omega))
    have b1 := isLt_b (hl 1 (by omega))
    rw [wdV_s (t := 1) (by decide), wdV_s (t := 0) (by decide), wdV_0]
    omega
  · have b0 := isLt_b (hl 0 (by omega))
    have b1 := isLt_b (hl 1 (by omega))
    have b2 := isLt_b (hl 2 (by omega))
    rw [wdV_s (t := 2) (by decide), wdV_s (t := 1) (by decide), wdV_s (t := 0) (by decide), wdV_0]
    omega
  · have b0 := isLt_b (hl 0 (by omega))
    have b1 := isLt_b (hl 1 (by omega))
    have b2 := isLt_b (hl 2 (by omega))
    have b3 := isLt_b (hl 3 (by omega))
    rw [wdV_s (t := 3) (by decide), wdV_s (t := 2) (by decide), wdV_s (t := 1) (by decide), wdV_s (t := 0) (by decide), wdV_0]
    omega
  · have b0 := isLt_b (hl 0 (by omega))
    have b1 := isLt_b (hl 1 (by omega))
    have b2 := isLt_b (hl 2 (by omega))
    have b3 := isLt_b (hl 3 (by omega))
    have b4 := isLt_b (hl 4 (by omega))
    rw [wdV_s (t := 4) (by decide), wdV_s (t := 3) (by decide), wdV_s (t := 2) (by decide), wdV_s (t := 1) (by decide), wdV_s (t := 0) (by decide), wdV_0]
    omega
  · have b0 := isLt_b (hl 0 (by omega))
    have b1 := isLt_b (hl 1 (by omega))
    have b2 := isLt_b (hl 2 (by omega))
    have b3 := isLt_b (hl 3 (by omega))
    have b4 := isLt_b (hl 4 (by omega))
    have b5 := isLt_b (hl 5 (by omega))
    rw [wdV_s (t := 5) (by decide), wdV_s (t := 4) (by decide), wdV_s (t := 3) (by decide), wdV_s (t := 2) (by decide), wdV_s (t := 1) (by decide), wdV_s (t := 0) (by decide), wdV_0]
    omega
theorem wm_6 (h1 : 1 ≤ t) (h6 : t ≤ 6) (hl : ∀ j, j < t → isLt (bs (s + j)) = true) : wdV bs s t = 542622085 ↔ t = 6 ∧ (bs (s + 0)).toInt = 112 ∧ (bs (s + 1)).toInt = 101 ∧ (bs (s + 2)).toInt = 111 ∧ (bs (s + 3)).toInt = 112 ∧ (bs (s + 4)).toInt = 108 ∧ (bs (s + 5)).toInt = 101 := by
  have c : t = 1 ∨ t = 2 ∨ t = 3 ∨ t = 4 ∨ t = 5 ∨ t = 6 := by omega
  rcases c with rfl | rfl | rfl | rfl | rfl | rfl
  · have b0 := isLt_b (hl 0 (by omega))
    rw [wdV_s (t := 0) (by decide), wdV_0]
    omega
  · have b0 := isLt_b (hl 0 (by omega))
    have b1 := isLt_b (hl 1 (by omega))
    rw [wdV_s (t := 1) (by decide), wdV_s (t := 0) (by decide), wdV_0]
    omega
  · have b0 := isLt_b (hl 0 (by omega))
    have b1 := isLt_b (hl 1 (by omega))
    have b2 := isLt_b (hl 2 (by omega))
    rw [wdV_s (t := 2) (by decide), wdV_s (t := 1) (by decide), wdV_s (t := 0) (by decide), wdV_0]
    omega
  · have b0 := isLt_b (hl 0 (by omega))
    have b1 := isLt_b (hl 1 (by omega))
    have b2 := isLt_b (hl 2 (by omega))
    have b3 := isLt_b (hl 3 (by omega))
    rw [wdV_s (t := 3) (by decide), wdV_s (t := 2) (by decide), wdV_s (t := 1) (by decide), wdV_s (t := 0) (by decide), wdV_0]
    omega
  · have b0 := isLt_b (hl 0 (by omega))
    have b1 := isLt_b (hl 1 (by omega))
    have b2 := isLt_b (hl 2 (by omega))
    have b3 := isLt_b (hl 3 (by omega))
    have b4 := isLt_b (hl 4 (by omega))
    rw [wdV_s (t := 4) (by decide), wdV_s (t := 3) (by decide), wdV_s (t := 2) (by decide), wdV_s (t := 1) (by decide), wdV_s (t := 0) (by decide), wdV_0]
    omega
  · have b0 := isLt_b (hl 0 (by omega))
    have b1 := isLt_b (hl 1 (by omega))
    have b2 := isLt_b (hl 2 (by omega))
    have b3 := isLt_b (hl 3 (by omega))
    have b4 := isLt_b (hl 4 (by omega))
    have b5 := isLt_b (hl 5 (by omega))
    rw [wdV_s (t := 5) (by decide), wdV_s (t := 4) (by decide), wdV_s (t := 3) (by decide), wdV_s (t := 2) (by decide), wdV_s (t := 1) (by decide), wdV_s (t := 0) (by decide), wdV_0]
    omega
theorem wm_7 (h1 : 1 ≤ t) (h6 : t ≤ 6) (hl : ∀ j, j < t → isLt (bs (s + j)) = true) : wdV bs s t = 769604 ↔ t = 4 ∧ (bs (s + 0)).toInt = 119 ∧ (bs (s + 1)).toInt = 111 ∧ (bs (s + 2)).toInt = 114 ∧ (bs (s + 3)).toInt = 100 := by
  have c : t = 1 ∨ t = 2 ∨ t = 3 ∨ t = 4 ∨ t = 5 ∨ t = 6 := by omega
  rcases c with rfl | rfl | rfl | rfl | rfl | rfl
  · have b0 := isLt_b (hl 0 (by omega))
    rw [wdV_s (t := 0) (by decide), wdV_0]
    omega
  · have b0 := isLt_b (hl 0 (by omega))
    have b1 := isLt_b (hl 1 (by omega))
    rw [wdV_s (t := 1) (by decide), wdV_s (t := 0) (by decide), wdV_0]
    omega
  · have b0 := isLt_b (hl 0 (by omega))
    have b1 := isLt_b (hl 1 (by omega))
    have b2 := isLt_b (hl 2 (by omega))
    rw [wdV_s (t := 2) (by decide), wdV_s (t := 1) (by decide), wdV_s (t := 0) (by decide), wdV_0]
    omega
  · have b0 := isLt_b (hl 0 (by omega))
    have b1 := isLt_b (hl 1 (by omega))
    have b2 := isLt_b (hl 2 (by omega))
    have b3 := isLt_b (hl 3 (by omega))
    rw [wdV_s (t := 3) (by decide), wdV_s (t := 2) (by decide), wdV_s (t := 1) (by decide), wdV_s (t := 0) (by decide), wdV_0]
    omega
  · have b0 := isLt_b (hl 0 (by omega))
    have b1 := isLt_b (hl 1 (by omega))
    have b2 := isLt_b (hl 2 (by omega))
    have b3 := isLt_b (hl 3 (by omega))
    have b4 := isLt_b (hl 4 (by omega))
    rw [wdV_s (t := 4) (by decide), wdV_s (t := 3) (by decide), wdV_s (t := 2) (by decide), wdV_s (t := 1) (by decide), wdV_s (t := 0) (by decide), wdV_0]
    omega
  · have b0 := isLt_b (hl 0 (by omega))
    have b1 := isLt_b (hl 1 (by omega))
    have b2 := isLt_b (hl 2 (by omega))
    have b3 := isLt_b (hl 3 (by omega))
    have b4 := isLt_b (hl 4 (by omega))
    have b5 := isLt_b (hl 5 (by omega))
    rw [wdV_s (t := 5) (by decide), wdV_s (t := 4) (by decide), wdV_s (t := 3) (by decide), wdV_s (t := 2) (by decide), wdV_s (t := 1) (by decide), wdV_s (t := 0) (by decide), wdV_0]
    omega
theorem wm_8 (h1 : 1 ≤ t) (h6 : t ≤ 6) (hl : ∀ j, j < t → isLt (bs (s + j)) = true) : wdV bs s t = 1420 ↔ t = 3 ∧ (bs (s + 0)).toInt = 97 ∧ (bs (s + 1)).toInt = 108 ∧ (bs (s + 2)).toInt = 108 := by
  have c : t = 1 ∨ t = 2 ∨ t = 3 ∨ t = 4 ∨ t = 5 ∨ t = 6 := by omega
  rcases c with rfl | rfl | rfl | rfl | rfl | rfl
  · have b0 := isLt_b (hl 0 (by omega))
    rw [wdV_s (t := 0) (by decide), wdV_0]
    omega
  · have b0 := isLt_b (hl 0 (by omega))
    have b1 := isLt_b (hl 1 (by omega))
    rw [wdV_s (t := 1) (by decide), wdV_s (t := 0) (by decide), wdV_0]
    omega
  · have b0 := isLt_b (hl 0 (by omega))
    have b1 := isLt_b (hl 1 (by omega))
    have b2 := isLt_b (hl 2 (by omega))
    rw [wdV_s (t := 2) (by decide), wdV_s (t := 1) (by decide), wdV_s (t := 0) (by decide), wdV_0]
    omega
  · have b0 := isLt_b (hl 0 (by omega))
    have b1 := isLt_b (hl 1 (by omega))
    have b2 := isLt_b (hl 2 (by omega))
    have b3 := isLt_b (hl 3 (by omega))
    rw [wdV_s (t := 3) (by decide), wdV_s (t := 2) (by decide), wdV_s (t := 1) (by decide), wdV_s (t := 0) (by decide), wdV_0]
    omega
  · have b0 := isLt_b (hl 0 (by omega))
    have b1 := isLt_b (hl 1 (by omega))
    have b2 := isLt_b (hl 2 (by omega))
    have b3 := isLt_b (hl 3 (by omega))
    have b4 := isLt_b (hl 4 (by omega))
    rw [wdV_s (t := 4) (by decide), wdV_s (t := 3) (by decide), wdV_s (t := 2) (by decide), wdV_s (t := 1) (by decide), wdV_s (t := 0) (by decide), wdV_0]
    omega
  · have b0 := isLt_b (hl 0 (by omega))
    have b1 := isLt_b (hl 1 (by omega))
    have b2 := isLt_b (hl 2 (by omega))
    have b3 := isLt_b (hl 3 (by omega))
    have b4 := isLt_b (hl 4 (by omega))
    have b5 := isLt_b (hl 5 (by omega))
    rw [wdV_s (t := 5) (by decide), wdV_s (t := 4) (by decide), wdV_s (t := 3) (by decide), wdV_s (t := 2) (by decide), wdV_s (t := 1) (by decide), wdV_s (t := 0) (by decide), wdV_0]
    omega
theorem wm_9 (h1 : 1 ≤ t) (h6 : t ≤ 6) (hl : ∀ j, j < t → isLt (bs (s + j)) = true) : wdV bs s t = 6309 ↔ t = 3 ∧ (bs (s + 0)).toInt = 102 ∧ (bs (s + 1)).toInt = 101 ∧ (bs (s + 2)).toInt = 101 := by
  have c : t = 1 ∨ t = 2 ∨ t = 3 ∨ t = 4 ∨ t = 5 ∨ t = 6 := by omega
  rcases c with rfl | rfl | rfl | rfl | rfl | rfl
  · have b0 := isLt_b (hl 0 (by omega))
    rw [wdV_s (t := 0) (by decide), wdV_0]
    omega
  · have b0 := isLt_b (hl 0 (by omega))
    have b1 := isLt_b (hl 1 (by omega))
    rw [wdV_s (t := 1) (by decide), wdV_s (t := 0) (by decide), wdV_0]
    omega
  · have b0 := isLt_b (hl 0 (by omega))
    have b1 := isLt_b (hl 1 (by omega))
    have b2 := isLt_b (hl 2 (by omega))
    rw [wdV_s (t := 2) (by decide), wdV_s (t := 1) (by decide), wdV_s (t := 0) (by decide), wdV_0]
    omega
  · have b0 := isLt_b (hl 0 (by omega))
    have b1 := isLt_b (hl 1 (by omega))
    have b2 := isLt_b (hl 2 (by omega))
    have b3 := isLt_b (hl 3 (by omega))
    rw [wdV_s (t := 3) (by decide), wdV_s (t := 2) (by decide), wdV_s (t := 1) (by decide), wdV_s (t := 0) (by decide), wdV_0]
    omega
  · have b0 := isLt_b (hl 0 (by omega))
    have b1 := isLt_b (hl 1 (by omega))
    have b2 := isLt_b (hl 2 (by omega))
    have b3 := isLt_b (hl 3 (by omega))
    have b4 := isLt_b (hl 4 (by omega))
    rw [wdV_s (t := 4) (by decide), wdV_s (t := 3) (by decide), wdV_s (t := 2) (by decide), wdV_s (t := 1) (by decide), wdV_s (t := 0) (by decide), wdV_0]
    omega
  · have b0 := isLt_b (hl 0 (by omega))
    have b1 := isLt_b (hl 1 (by omega))
    have b2 := isLt_b (hl 2 (by omega))
    have b3 := isLt_b (hl 3 (by omega))
    have b4 := isLt_b (hl 4 (by omega))
    have b5 := isLt_b (hl 5 (by omega))
    rw [wdV_s (t := 5) (by decide), wdV_s (t := 4) (by decide), wdV_s (t := 3) (by decide), wdV_s (t := 2) (by decide), wdV_s (t := 1) (by decide), wdV_s (t := 0) (by decide), wdV_0]
    omega
theorem wm_10 (h1 : 1 ≤ t) (h6 : t ≤ 6) (hl : ∀ j, j < t → isLt (bs (s + j)) = true) : wdV bs s t = 599659 ↔ t = 4 ∧ (bs (s + 0)).toInt = 114 ∧ (bs (s + 1)).toInt = 105 ∧ (bs (s + 2)).toInt = 115 ∧ (bs (s + 3)).toInt = 107 := by
  have c : t = 1 ∨ t = 2 ∨ t = 3 ∨ t = 4 ∨ t = 5 ∨ t = 6 := by omega
  rcases c with rfl | rfl | rfl | rfl | rfl | rfl
  · have b0 := isLt_b (hl 0 (by omega))
    rw [wdV_s (t := 0) (by decide), wdV_0]
    omega
  · have b0 := isLt_b (hl 0 (by omega))
    have b1 := isLt_b (hl 1 (by omega))
    rw [wdV_s (t := 1) (by decide), wdV_s (t := 0) (by decide), wdV_0]
    omega
  · have b0 := isLt_b (hl 0 (by omega))
    have b1 := isLt_b (hl 1 (by omega))
    have b2 := isLt_b (hl 2 (by omega))
    rw [wdV_s (t := 2) (by decide), wdV_s (t := 1) (by decide), wdV_s (t := 0) (by decide), wdV_0]
    omega
  · have b0 := isLt_b (hl 0 (by omega))
    have b1 := isLt_b (hl 1 (by omega))
    have b2 := isLt_b (hl 2 (by omega))
    have b3 := isLt_b (hl 3 (by omega))
    rw [wdV_s (t := 3) (by decide), wdV_s (t := 2) (by decide), wdV_s (t := 1) (by decide), wdV_s (t := 0) (by decide), wdV_0]
    omega
  · have b0 := isLt_b (hl 0 (by omega))
    have b1 := isLt_b (hl 1 (by omega))
    have b2 := isLt_b (hl 2 (by omega))
    have b3 := isLt_b (hl 3 (by omega))
    have b4 := isLt_b (hl 4 (by omega))
    rw [wdV_s (t := 4) (by decide), wdV_s (t := 3) (by decide), wdV_s (t := 2) (by decide), wdV_s (t := 1) (by decide), wdV_s (t := 0) (by decide), wdV_0]
    omega
  · have b0 := isLt_b (hl 0 (by omega))
    have b1 := isLt_b (hl 1 (by omega))
    have b2 := isLt_b (hl 2 (by omega))
    have b3 := isLt_b (hl 3 (by omega))
    have b4 := isLt_b (hl 4 (by omega))
    have b5 := isLt_b (hl 5 (by omega))
    rw [wdV_s (t := 5) (by decide), wdV_s (t := 4) (by decide), wdV_s (t := 3) (by decide), wdV_s (t := 2) (by decide), wdV_s (t := 1) (by decide), wdV_s (t := 0) (by decide), wdV_0]
    omega
theorem wm_11 (h1 : 1 ≤ t) (h6 : t ≤ 6) (hl : ∀ j, j < t → isLt (bs (s + j)) = true) : wdV bs s t = 20317291 ↔ t = 5 ∧ (bs (s + 0)).toInt = 115 ∧ (bs (s + 1)).toInt = 108 ∧ (bs (s + 2)).toInt = 97 ∧ (bs (s + 3)).toInt = 99 ∧ (bs (s + 4)).toInt = 107 := by
  have c : t = 1 ∨ t = 2 ∨ t = 3 ∨ t = 4 ∨ t = 5 ∨ t = 6 := by omega
  rcases c with rfl | rfl | rfl | rfl | rfl | rfl
  · have b0 := isLt_b (hl 0 (by omega))
    rw [wdV_s (t := 0) (by decide), wdV_0]
    omega
  · have b0 := isLt_b (hl 0 (by omega))
    have b1 := isLt_b (hl 1 (by omega))
    rw [wdV_s (t := 1) (by decide), wdV_s (t := 0) (by decide), wdV_0]
    omega
  · have b0 := isLt_b (hl 0 (by omega))
    have b1 := isLt_b (hl 1 (by omega))
    have b2 := isLt_b (hl 2 (by omega))
    rw [wdV_s (t := 2) (by decide), wdV_s (t := 1) (by decide), wdV_s (t := 0) (by decide), wdV_0]
    omega
  · have b0 := isLt_b (hl 0 (by omega))
    have b1 := isLt_b (hl 1 (by omega))
    have b2 := isLt_b (hl 2 (by omega))
    have b3 := isLt_b (hl 3 (by omega))
    rw [wdV_s (t := 3) (by decide), wdV_s (t := 2) (by decide), wdV_s (t := 1) (by decide), wdV_s (t := 0) (by decide), wdV_0]
    omega
  · have b0 := isLt_b (hl 0 (by omega))
    have b1 := isLt_b (hl 1 (by omega))
    have b2 := isLt_b (hl 2 (by omega))
    have b3 := isLt_b (hl 3 (by omega))
    have b4 := isLt_b (hl 4 (by omega))
    rw [wdV_s (t := 4) (by decide), wdV_s (t := 3) (by decide), wdV_s (t := 2) (by decide), wdV_s (t := 1) (by decide), wdV_s (t := 0) (by decide), wdV_0]
    omega
  · have b0 := isLt_b (hl 0 (by omega))
    have b1 := isLt_b (hl 1 (by omega))
    have b2 := isLt_b (hl 2 (by omega))
    have b3 := isLt_b (hl 3 (by omega))
    have b4 := isLt_b (hl 4 (by omega))
    have b5 := isLt_b (hl 5 (by omega))
    rw [wdV_s (t := 5) (by decide), wdV_s (t := 4) (by decide), wdV_s (t := 3) (by decide), wdV_s (t := 2) (by decide), wdV_s (t := 1) (by decide), wdV_s (t := 0) (by decide), wdV_0]
    omega
theorem wm_12 (h1 : 1 ≤ t) (h6 : t ≤ 6) (hl : ∀ j, j < t → isLt (bs (s + j)) = true) : wdV bs s t = 755156 ↔ t = 4 ∧ (bs (s + 0)).toInt = 119 ∧ (bs (s + 1)).toInt = 97 ∧ (bs (s + 2)).toInt = 110 ∧ (bs (s + 3)).toInt = 116 := by
  have c : t = 1 ∨ t = 2 ∨ t = 3 ∨ t = 4 ∨ t = 5 ∨ t = 6 := by omega
  rcases c with rfl | rfl | rfl | rfl | rfl | rfl
  · have b0 := isLt_b (hl 0 (by omega))
    rw [wdV_s (t := 0) (by decide), wdV_0]
    omega
  · have b0 := isLt_b (hl 0 (by omega))
    have b1 := isLt_b (hl 1 (by omega))
    rw [wdV_s (t := 1) (by decide), wdV_s (t := 0) (by decide), wdV_0]
    omega
  · have b0 := isLt_b (hl 0 (by omega))
    have b1 := isLt_b (hl 1 (by omega))
    have b2 := isLt_b (hl 2 (by omega))
    rw [wdV_s (t := 2) (by decide), wdV_s (t := 1) (by decide), wdV_s (t := 0) (by decide), wdV_0]
    omega
  · have b0 := isLt_b (hl 0 (by omega))
    have b1 := isLt_b (hl 1 (by omega))
    have b2 := isLt_b (hl 2 (by omega))
    have b3 := isLt_b (hl 3 (by omega))
    rw [wdV_s (t := 3) (by decide), wdV_s (t := 2) (by decide), wdV_s (t := 1) (by decide), wdV_s (t := 0) (by decide), wdV_0]
    omega
  · have b0 := isLt_b (hl 0 (by omega))
    have b1 := isLt_b (hl 1 (by omega))
    have b2 := isLt_b (hl 2 (by omega))
    have b3 := isLt_b (hl 3 (by omega))
    have b4 := isLt_b (hl 4 (by omega))
    rw [wdV_s (t := 4) (by decide), wdV_s (t := 3) (by decide), wdV_s (t := 2) (by decide), wdV_s (t := 1) (by decide), wdV_s (t := 0) (by decide), wdV_0]
    omega
  · have b0 := isLt_b (hl 0 (by omega))
    have b1 := isLt_b (hl 1 (by omega))
    have b2 := isLt_b (hl 2 (by omega))
    have b3 := isLt_b (hl 3 (by omega))
    have b4 := isLt_b (hl 4 (by omega))
    have b5 := isLt_b (hl 5 (by omega))
    rw [wdV_s (t := 5) (by decide), wdV_s (t := 4) (by decide), wdV_s (t := 3) (by decide), wdV_s (t := 2) (by decide), wdV_s (t := 1) (by decide), wdV_s (t := 0) (by decide), wdV_0]
    omega
theorem wdK_cases (V : Int) : (V = 542622085 ∧ wdK V = 1) ∨ (V = 769604 ∧ wdK V = 2) ∨ (V = 1420 ∧ wdK V = 3) ∨ (V = 6309 ∧ wdK V = 4) ∨ (V = 599659 ∧ wdK V = 5) ∨ (V = 20317291 ∧ wdK V = 6) ∨ (V = 755156 ∧ wdK V = 7) ∨ (V = 16101 ∧ wdK V = 11) ∨ (V = 16441 ∧ wdK V = 12) ∨ (V = 599495 ∧ wdK V = 13) ∨ (V = 659105125 ∧ wdK V = 14) ∨ (V = 197932 ∧ wdK V = 15) ∨ (V = 14137992 ∧ wdK V = 16) ∨ wdK V = 99 := by
  by_cases c0 : V = 542622085
  · subst c0
    exact Or.inl ⟨rfl, by decide +kernel⟩
  by_cases c1 : V = 769604
  · subst c1
    exact Or.inr (Or.inl ⟨rfl, by decide +kernel⟩)
  by_cases c2 : V = 1420
  · subst c2
    exact Or.inr (Or.inr (Or.inl ⟨rfl, by decide +kernel⟩))
  by_cases c3 : V = 6309
  · subst c3
    exact Or.inr (Or.inr (Or.inr (Or.inl ⟨rfl, by decide +kernel⟩)))
  by_cases c4 : V = 599659
  · subst c4
    exact Or.inr (Or.inr (Or.inr (Or.inr (Or.inl ⟨rfl, by decide +kernel⟩))))
  by_cases c5 : V = 20317291
  · subst c5
    exact Or.inr (Or.inr (Or.inr (Or.inr (Or.inr (Or.inl ⟨rfl, by decide +kernel⟩)))))
  by_cases c6 : V = 755156
  · subst c6
    exact Or.inr (Or.inr (Or.inr (Or.inr (Or.inr (Or.inr (Or.inl ⟨rfl, by decide +kernel⟩))))))
  by_cases c7 : V = 16101
  · subst c7
    exact Or.inr (Or.inr (Or.inr (Or.inr (Or.inr (Or.inr (Or.inr (Or.inl ⟨rfl, by decide +kernel⟩)))))))
  by_cases c8 : V = 16441
  · subst c8
    exact Or.inr (Or.inr (Or.inr (Or.inr (Or.inr (Or.inr (Or.inr (Or.inr (Or.inl ⟨rfl, by decide +kernel⟩))))))))
  by_cases c9 : V = 599495
  · subst c9
    exact Or.inr (Or.inr (Or.inr (Or.inr (Or.inr (Or.inr (Or.inr (Or.inr (Or.inr (Or.inl ⟨rfl, by decide +kernel⟩)))))))))
  by_cases c10 : V = 659105125
  · subst c10
    exact Or.inr (Or.inr (Or.inr (Or.inr (Or.inr (Or.inr (Or.inr (Or.inr (Or.inr (Or.inr (Or.inl ⟨rfl, by decide +kernel⟩))))))))))
  by_cases c11 : V = 197932
  · subst c11
    exact Or.inr (Or.inr (Or.inr (Or.inr (Or.inr (Or.inr (Or.inr (Or.inr (Or.inr (Or.inr (Or.inr (Or.inl ⟨rfl, by decide +kernel⟩)))))))))))
  by_cases c12 : V = 14137992
  · subst c12
    exact Or.inr (Or.inr (Or.inr (Or.inr (Or.inr (Or.inr (Or.inr (Or.inr (Or.inr (Or.inr (Or.inr (Or.inr (Or.inl ⟨rfl, by decide +kernel⟩))))))))))))
  refine Or.inr (Or.inr (Or.inr (Or.inr (Or.inr (Or.inr (Or.inr (Or.inr (Or.inr (Or.inr (Or.inr (Or.inr (Or.inr (?_)))))))))))))
  unfold wdK
  rw [if_neg c0, if_neg c1, if_neg c2, if_neg c3, if_neg c4, if_neg c5, if_neg c6, if_neg c7, if_neg c8, if_neg c9, if_neg c10, if_neg c11, if_neg c12]
theorem thirteen {v : Nat} {P : Nat → Prop} (h : v ≤ 12) (h0 : P 0) (h1 : P 1) (h2 : P 2) (h3 : P 3) (h4 : P 4) (h5 : P 5) (h6 : P 6) (h7 : P 7) (h8 : P 8) (h9 : P 9) (h10 : P 10) (h11 : P 11) (h12 : P 12) : P v := by
  have c : v = 0 ∨ v = 1 ∨ v = 2 ∨ v = 3 ∨ v = 4 ∨ v = 5 ∨ v = 6 ∨ v = 7 ∨ v = 8 ∨ v = 9 ∨ v = 10 ∨ v = 11 ∨ v = 12 := by omega
  rcases c with rfl | rfl | rfl | rfl | rfl | rfl | rfl | rfl | rfl | rfl | rfl | rfl | rfl <;> assumption
theorem wdK_iff {V : Int} {v : Nat} (h : v ≤ 12) : wdK V = vC v ↔ V = vN v := by
  constructor
  · intro q
    rcases wdK_cases V with ⟨e, f⟩ | ⟨e, f⟩ | ⟨e, f⟩ | ⟨e, f⟩ | ⟨e, f⟩ | ⟨e, f⟩ | ⟨e, f⟩ | ⟨e, f⟩ | ⟨e, f⟩ | ⟨e, f⟩ | ⟨e, f⟩ | ⟨e, f⟩ | ⟨e, f⟩ | e
    · rw [f] at q
      revert q
      refine thirteen (P := fun v => 1 = vC v → V = vN v) h (fun q => absurd q (by decide +kernel)) (fun q => absurd q (by decide +kernel)) (fun q => absurd q (by decide +kernel)) (fun q => absurd q (by decide +kernel)) (fun q => absurd q (by decide +kernel)) (fun q => absurd q (by decide +kernel)) (fun _ => e) (fun q => absurd q (by decide +kernel)) (fun q => absurd q (by decide +kernel)) (fun q => absurd q (by decide +kernel)) (fun q => absurd q (by decide +kernel)) (fun q => absurd q (by decide +kernel)) (fun q => absurd q (by decide +kernel))
    · rw [f] at q
      revert q
      refine thirteen (P := fun v => 2 = vC v → V = vN v) h (fun q => absurd q (by decide +kernel)) (fun q => absurd q (by decide +kernel)) (fun q => absurd q (by decide +kernel)) (fun q => absurd q (by decide +kernel)) (fun q => absurd q (by decide +kernel)) (fun q => absurd q (by decide +kernel)) (fun q => absurd q (by decide +kernel)) (fun _ => e) (fun q => absurd q (by decide +kernel)) (fun q => absurd q (by decide +kernel)) (fun q => absurd q (by decide +kernel)) (fun q => absurd q (by decide +kernel)) (fun q => absurd q (by decide +kernel))
    · rw [f] at q
      revert q
      refine thirteen (P := fun v => 3 = vC v → V = vN v) h (fun q => absurd q (by decide +kernel)) (fun q => absurd q (by decide +kernel)) (fun q => absurd q (by decide +kernel)) (fun q => absurd q (by decide +kernel)) (fun q => absurd q (by decide +kernel)) (fun q => absurd q (by decide +kernel)) (fun q => absurd q (by decide +kernel)) (fun q => absurd q (by decide +kernel)) (fun _ => e) (fun q => absurd q (by decide +kernel)) (fun q => absurd q (by decide +kernel)) (fun q => absurd q (by decide +kernel)) (fun q => absurd q (by decide +kernel))
    · rw [f] at q
      revert q
      refine thirteen (P := fun v => 4 = vC v → V = vN v) h (fun q => absurd q (by decide +kernel)) (fun q => absurd q (by decide +kernel)) (fun q => absurd q (by decide +kernel)) (fun q => absurd q (by decide +kernel)) (fun q => absurd q (by decide +kernel)) (fun q => absurd q (by decide +kernel)) (fun q => absurd q (by decide +kernel)) (fun q => absurd q (by decide +kernel)) (fun q => absurd q (by decide +kernel)) (fun _ => e) (fun q => absurd q (by decide +kernel)) (fun q => absurd q (by decide +kernel)) (fun q => absurd q (by decide +kernel))
    · rw [f] at q
      revert q
      refine thirteen (P := fun v => 5 = vC v → V = vN v) h (fun q => absurd q (by decide +kernel)) (fun q => absurd q (by decide +kernel)) (fun q => absurd q (by decide +kernel)) (fun q => absurd q (by decide +kernel)) (fun q => absurd q (by decide +kernel)) (fun q => absurd q (by decide +kernel)) (fun q => absurd q (by decide +kernel)) (fun q => absurd q (by decide +kernel)) (fun q => absurd q (by decide +kernel)) (fun q => absurd q (by decide +kernel)) (fun _ => e) (fun q => absurd q (by decide +kernel)) (fun q => absurd q (by decide +kernel))
    · rw [f] at q
      revert q
      refine thirteen (P := fun v => 6 = vC v → V = vN v) h (fun q => absurd q (by decide +kernel)) (fun q => absurd q (by decide +kernel)) (fun q => absurd q (by decide +kernel)) (fun q => absurd q (by decide +kernel)) (fun q => absurd q (by decide +kernel)) (fun q => absurd q (by decide +kernel)) (fun q => absurd q (by decide +kernel)) (fun q => absurd q (by decide +kernel)) (fun q => absurd q (by decide +kernel)) (fun q => absurd q (by decide +kernel)) (fun q => absurd q (by decide +kernel)) (fun _ => e) (fun q => absurd q (by decide +kernel))
    · rw [f] at q
      revert q
      refine thirteen (P := fun v => 7 = vC v → V = vN v) h (fun q => absurd q (by decide +kernel)) (fun q => absurd q (by decide +kernel)) (fun q => absurd q (by decide +kernel)) (fun q => absurd q (by decide +kernel)) (fun q => absurd q (by decide +kernel)) (fun q => absurd q (by decide +kernel)) (fun q => absurd q (by decide +kernel)) (fun q => absurd q (by decide +kernel)) (fun q => absurd q (by decide +kernel)) (fun q => absurd q (by decide +kernel)) (fun q => absurd q (by decide +kernel)) (fun q => absurd q (by decide +kernel)) (fun _ => e)
    · rw [f] at q
      revert q
      refine thirteen (P := fun v => 11 = vC v → V = vN v) h (fun _ => e) (fun q => absurd q (by decide +kernel)) (fun q => absurd q (by decide +kernel)) (fun q => absurd q (by decide +kernel)) (fun q => absurd q (by decide +kernel)) (fun q => absurd q (by decide +kernel)) (fun q => absurd q (by decide +kernel)) (fun q => absurd q (by decide +kernel)) (fun q => absurd q (by decide +kernel)) (fun q => absurd q (by decide +kernel)) (fun q => absurd q (by decide +kernel)) (fun q => absurd q (by decide +kernel)) (fun q => absurd q (by decide +kernel))
    · rw [f] at q
      revert q
      refine thirteen (P := fun v => 12 = vC v → V = vN v) h (fun q => absurd q (by decide +kernel)) (fun _ => e) (fun q => absurd q (by decide +kernel)) (fun q => absurd q (by decide +kernel)) (fun q => absurd q (by decide +kernel)) (fun q => absurd q (by decide +kernel)) (fun q => absurd q (by decide +kernel)) (fun q => absurd q (by decide +kernel)) (fun q => absurd q (by decide +kernel)) (fun q => absurd q (by decide +kernel)) (fun q => absurd q (by decide +kernel)) (fun q => absurd q (by decide +kernel)) (fun q => absurd q (by decide +kernel))
    · rw [f] at q
      revert q
      refine thirteen (P := fun v => 13 = vC v → V = vN v) h (fun q => absurd q (by decide +kernel)) (fun q => absurd q (by decide +kernel)) (fun _ => e) (fun q => absurd q (by decide +kernel)) (fun q => absurd q (by decide +kernel)) (fun q => absurd q (by decide +kernel)) (fun q => absurd q (by decide +kernel)) (fun q => absurd q (by decide +kernel)) (fun q => absurd q (by decide +kernel)) (fun q => absurd q (by decide +kernel)) (fun q => absurd q (by decide +kernel)) (fun q => absurd q (by decide +kernel)) (fun q => absurd q (by decide +kernel))
    · rw [f] at q
      revert q
      refine thirteen (P := fun v => 14 = vC v → V = vN v) h (fun q => absurd q (by decide +kernel)) (fun q => absurd q (by decide +kernel)) (fun q => absurd q (by decide +kernel)) (fun _ => e) (fun q => absurd q (by decide +kernel)) (fun q => absurd q (by decide +kernel)) (fun q => absurd q (by decide +kernel)) (fun q => absurd q (by decide +kernel)) (fun q => absurd q (by decide +kernel)) (fun q => absurd q (by decide +kernel)) (fun q => absurd q (by decide +kernel)) (fun q => absurd q (by decide +kernel)) (fun q => absurd q (by decide +kernel))
    · rw [f] at q
      revert q
      refine thirteen (P := fun v => 15 = vC v → V = vN v) h (fun q => absurd q (by decide +kernel)) (fun q => absurd q (by decide +kernel)) (fun q => absurd q (by decide +kernel)) (fun q => absurd q (by decide +kernel)) (fun _ => e) (fun q => absurd q (by decide +kernel)) (fun q => absurd q (by decide +kernel)) (fun q => absurd q (by decide +kernel)) (fun q => absurd q (by decide +kernel)) (fun q => absurd q (by decide +kernel)) (fun q => absurd q (by decide +kernel)) (fun q => absurd q (by decide +kernel)) (fun q => absurd q (by decide +kernel))
    · rw [f] at q
      revert q
      refine thirteen (P := fun v => 16 = vC v → V = vN v) h (fun q => absurd q (by decide +kernel)) (fun q => absurd q (by decide +kernel)) (fun q => absurd q (by decide +kernel)) (fun q => absurd q (by decide +kernel)) (fun q => absurd q (by decide +kernel)) (fun _ => e) (fun q => absurd q (by decide +kernel)) (fun q => absurd q (by decide +kernel)) (fun q => absurd q (by decide +kernel)) (fun q => absurd q (by decide +kernel)) (fun q => absurd q (by decide +kernel)) (fun q => absurd q (by decide +kernel)) (fun q => absurd q (by decide +kernel))
    · rw [e] at q
      revert q
      refine thirteen (P := fun v => 99 = vC v → V = vN v) h (fun q => absurd q (by decide +kernel)) (fun q => absurd q (by decide +kernel)) (fun q => absurd q (by decide +kernel)) (fun q => absurd q (by decide +kernel)) (fun q => absurd q (by decide +kernel)) (fun q => absurd q (by decide +kernel)) (fun q => absurd q (by decide +kernel)) (fun q => absurd q (by decide +kernel)) (fun q => absurd q (by decide +kernel)) (fun q => absurd q (by decide +kernel)) (fun q => absurd q (by decide +kernel)) (fun q => absurd q (by decide +kernel)) (fun q => absurd q (by decide +kernel))
  · intro q
    subst q
    exact thirteen (P := fun v => wdK (vN v) = vC v) h (by decide +kernel) (by decide +kernel) (by decide +kernel) (by decide +kernel) (by decide +kernel) (by decide +kernel) (by decide +kernel) (by decide +kernel) (by decide +kernel) (by decide +kernel) (by decide +kernel) (by decide +kernel) (by decide +kernel)
theorem mt_wd {v : Nat} (h12 : v ≤ 12) (hse : s < e) (hl : ∀ j, j < e - s → isLt (bs (s + j)) = true) : mtc bs s e (vTx v) ↔ wdC bs s e = vC v := by
  have n99 : vC v ≠ 99 := by
    have c : v = 0 ∨ v = 1 ∨ v = 2 ∨ v = 3 ∨ v = 4 ∨ v = 5 ∨ v = 6 ∨ v = 7 ∨ v = 8 ∨ v = 9 ∨ v = 10 ∨ v = 11 ∨ v = 12 := by omega
    rcases c with rfl | rfl | rfl | rfl | rfl | rfl | rfl | rfl | rfl | rfl | rfl | rfl | rfl <;> decide +kernel
  have l6 := (vT_len h12).1
  by_cases c6 : e ≤ s + 6
  · unfold wdC
    rw [if_pos c6, wdK_iff h12]
    obtain ⟨t, ht⟩ : ∃ t, t = e - s := ⟨_, rfl⟩
    unfold mtc
    rw [← ht] at hl ⊢
    have t1 : 1 ≤ t := by omega
    have t6 : t ≤ 6 := by omega
    have c : v = 0 ∨ v = 1 ∨ v = 2 ∨ v = 3 ∨ v = 4 ∨ v = 5 ∨ v = 6 ∨ v = 7 ∨ v = 8 ∨ v = 9 ∨ v = 10 ∨ v = 11 ∨ v = 12 := by omega
    have gi : ∀ (x : Int32) (n : Int), n = x.toInt → ∀ y : Int32, y.toInt = n → y = x := fun x n hx y hy => Int32.toInt_inj.mp (hy.trans hx)
    rcases c with rfl | rfl | rfl | rfl | rfl | rfl | rfl | rfl | rfl | rfl | rfl | rfl | rfl
    · rw [show vN 0 = 16101 from rfl, wm_0 t1 t6 hl, show (vTx 0).length = 3 from by decide +kernel]
      constructor
      · intro q
        refine ⟨q.1, ?_, ?_, ?_⟩
        · rw [q.2 0 (by decide)]; decide +kernel
        · rw [q.2 1 (by decide)]; decide +kernel
        · rw [q.2 2 (by decide)]; decide +kernel
      · rintro ⟨q, z0, z1, z2⟩
        refine ⟨q, fun i hi => ?_⟩
        have ci : i = 0 ∨ i = 1 ∨ i = 2 := by omega
        rcases ci with rfl | rfl | rfl
        · exact gi _ _ (by decide +kernel) _ z0
        · exact gi _ _ (by decide +kernel) _ z1
        · exact gi _ _ (by decide +kernel) _ z2
    · rw [show vN 1 = 16441 from rfl, wm_1 t1 t6 hl, show (vTx 1).length = 3 from by decide +kernel]
      constructor
      · intro q
        refine ⟨q.1, ?_, ?_, ?_⟩
        · rw [q.2 0 (by decide)]; decide +kernel
        · rw [q.2 1 (by decide)]; decide +kernel
        · rw [q.2 2 (by decide)]; decide +kernel
      · rintro ⟨q, z0, z1, z2⟩
        refine ⟨q, fun i hi => ?_⟩
        have ci : i = 0 ∨ i = 1 ∨ i = 2 := by omega
        rcases ci with rfl | rfl | rfl
        · exact gi _ _ (by decide +kernel) _ z0
        · exact gi _ _ (by decide +kernel) _ z1
        · exact gi _ _ (by decide +kernel) _ z2
    · rw [show vN 2 = 599495 from rfl, wm_2 t1 t6 hl, show (vTx 2).length = 4 from by decide +kernel]
      constructor
      · intro q
        refine ⟨q.1, ?_, ?_, ?_, ?_⟩
        · rw [q.2 0 (by decide)]; decide +kernel
        · rw [q.2 1 (by decide)]; decide +kernel
        · rw [q.2 2 (by decide)]; decide +kernel
        · rw [q.2 3 (by decide)]; decide +kernel
      · rintro ⟨q, z0, z1, z2, z3⟩
        refine ⟨q, fun i hi => ?_⟩
        have ci : i = 0 ∨ i = 1 ∨ i = 2 ∨ i = 3 := by omega
        rcases ci with rfl | rfl | rfl | rfl
        · exact gi _ _ (by decide +kernel) _ z0
        · exact gi _ _ (by decide +kernel) _ z1
        · exact gi _ _ (by decide +kernel) _ z2
        · exact gi _ _ (by decide +kernel) _ z3
    · rw [show vN 3 = 659105125 from rfl, wm_3 t1 t6 hl, show (vTx 3).length = 6 from by decide +kernel]
      constructor
      · intro q
        refine ⟨q.1, ?_, ?_, ?_, ?_, ?_, ?_⟩
        · rw [q.2 0 (by decide)]; decide +kernel
        · rw [q.2 1 (by decide)]; decide +kernel
        · rw [q.2 2 (by decide)]; decide +kernel
        · rw [q.2 3 (by decide)]; decide +kernel
        · rw [q.2 4 (by decide)]; decide +kernel
        · rw [q.2 5 (by decide)]; decide +kernel
      · rintro ⟨q, z0, z1, z2, z3, z4, z5⟩
        refine ⟨q, fun i hi => ?_⟩
        have ci : i = 0 ∨ i = 1 ∨ i = 2 ∨ i = 3 ∨ i = 4 ∨ i = 5 := by omega
        rcases ci with rfl | rfl | rfl | rfl | rfl | rfl
        · exact gi _ _ (by decide +kernel) _ z0
        · exact gi _ _ (by decide +kernel) _ z1
        · exact gi _ _ (by decide +kernel) _ z2
        · exact gi _ _ (by decide +kernel) _ z3
        · exact gi _ _ (by decide +kernel) _ z4
        · exact gi _ _ (by decide +kernel) _ z5
    · rw [show vN 4 = 197932 from rfl, wm_4 t1 t6 hl, show (vTx 4).length = 4 from by decide +kernel]
      constructor
      · intro q
        refine ⟨q.1, ?_, ?_, ?_, ?_⟩
        · rw [q.2 0 (by decide)]; decide +kernel
        · rw [q.2 1 (by decide)]; decide +kernel
        · rw [q.2 2 (by decide)]; decide +kernel
        · rw [q.2 3 (by decide)]; decide +kernel
      · rintro ⟨q, z0, z1, z2, z3⟩
        refine ⟨q, fun i hi => ?_⟩
        have ci : i = 0 ∨ i = 1 ∨ i = 2 ∨ i = 3 := by omega
        rcases ci with rfl | rfl | rfl | rfl
        · exact gi _ _ (by decide +kernel) _ z0
        · exact gi _ _ (by decide +kernel) _ z1
        · exact gi _ _ (by decide +kernel) _ z2
        · exact gi _ _ (by decide +kernel) _ z3
    · rw [show vN 5 = 14137992 from rfl, wm_5 t1 t6 hl, show (vTx 5).length = 5 from by decide +kernel]
      constructor
      · intro q
        refine ⟨q.1, ?_, ?_, ?_, ?_, ?_⟩
        · rw [q.2 0 (by decide)]; decide +kernel
        · rw [q.2 1 (by decide)]; decide +kernel
        · rw [q.2 2 (by decide)]; decide +kernel
        · rw [q.2 3 (by decide)]; decide +kernel
        · rw [q.2 4 (by decide)]; decide +kernel
      · rintro ⟨q, z0, z1, z2, z3, z4⟩
        refine ⟨q, fun i hi => ?_⟩
        have ci : i = 0 ∨ i = 1 ∨ i = 2 ∨ i = 3 ∨ i = 4 := by omega
        rcases ci with rfl | rfl | rfl | rfl | rfl
        · exact gi _ _ (by decide +kernel) _ z0
        · exact gi _ _ (by decide +kernel) _ z1
        · exact gi _ _ (by decide +kernel) _ z2
        · exact gi _ _ (by decide +kernel) _ z3
        · exact gi _ _ (by decide +kernel) _ z4
    · rw [show vN 6 = 542622085 from rfl, wm_6 t1 t6 hl, show (vTx 6).length = 6 from by decide +kernel]
      constructor
      · intro q
        refine ⟨q.1, ?_, ?_, ?_, ?_, ?_, ?_⟩
        · rw [q.2 0 (by decide)]; decide +kernel
        · rw [q.2 1 (by decide)]; decide +kernel
        · rw [q.2 2 (by decide)]; decide +kernel
        · rw [q.2 3 (by decide)]; decide +kernel
        · rw [q.2 4 (by decide)]; decide +kernel
        · rw [q.2 5 (by decide)]; decide +kernel
      · rintro ⟨q, z0, z1, z2, z3, z4, z5⟩
        refine ⟨q, fun i hi => ?_⟩
        have ci : i = 0 ∨ i = 1 ∨ i = 2 ∨ i = 3 ∨ i = 4 ∨ i = 5 := by omega
        rcases ci with rfl | rfl | rfl | rfl | rfl | rfl
        · exact gi _ _ (by decide +kernel) _ z0
        · exact gi _ _ (by decide +kernel) _ z1
        · exact gi _ _ (by decide +kernel) _ z2
        · exact gi _ _ (by decide +kernel) _ z3
        · exact gi _ _ (by decide +kernel) _ z4
        · exact gi _ _ (by decide +kernel) _ z5
    · rw [show vN 7 = 769604 from rfl, wm_7 t1 t6 hl, show (vTx 7).length = 4 from by decide +kernel]
      constructor
      · intro q
        refine ⟨q.1, ?_, ?_, ?_, ?_⟩
        · rw [q.2 0 (by decide)]; decide +kernel
        · rw [q.2 1 (by decide)]; decide +kernel
        · rw [q.2 2 (by decide)]; decide +kernel
        · rw [q.2 3 (by decide)]; decide +kernel
      · rintro ⟨q, z0, z1, z2, z3⟩
        refine ⟨q, fun i hi => ?_⟩
        have ci : i = 0 ∨ i = 1 ∨ i = 2 ∨ i = 3 := by omega
        rcases ci with rfl | rfl | rfl | rfl
        · exact gi _ _ (by decide +kernel) _ z0
        · exact gi _ _ (by decide +kernel) _ z1
        · exact gi _ _ (by decide +kernel) _ z2
        · exact gi _ _ (by decide +kernel) _ z3
    · rw [show vN 8 = 1420 from rfl, wm_8 t1 t6 hl, show (vTx 8).length = 3 from by decide +kernel]
      constructor
      · intro q
        refine ⟨q.1, ?_, ?_, ?_⟩
        · rw [q.2 0 (by decide)]; decide +kernel
        · rw [q.2 1 (by decide)]; decide +kernel
        · rw [q.2 2 (by decide)]; decide +kernel
      · rintro ⟨q, z0, z1, z2⟩
        refine ⟨q, fun i hi => ?_⟩
        have ci : i = 0 ∨ i = 1 ∨ i = 2 := by omega
        rcases ci with rfl | rfl | rfl
        · exact gi _ _ (by decide +kernel) _ z0
        · exact gi _ _ (by decide +kernel) _ z1
        · exact gi _ _ (by decide +kernel) _ z2
    · rw [show vN 9 = 6309 from rfl, wm_9 t1 t6 hl, show (vTx 9).length = 3 from by decide +kernel]
      constructor
      · intro q
        refine ⟨q.1, ?_, ?_, ?_⟩
        · rw [q.2 0 (by decide)]; decide +kernel
        · rw [q.2 1 (by decide)]; decide +kernel
        · rw [q.2 2 (by decide)]; decide +kernel
      · rintro ⟨q, z0, z1, z2⟩
        refine ⟨q, fun i hi => ?_⟩
        have ci : i = 0 ∨ i = 1 ∨ i = 2 := by omega
        rcases ci with rfl | rfl | rfl
        · exact gi _ _ (by decide +kernel) _ z0
        · exact gi _ _ (by decide +kernel) _ z1
        · exact gi _ _ (by decide +kernel) _ z2
    · rw [show vN 10 = 599659 from rfl, wm_10 t1 t6 hl, show (vTx 10).length = 4 from by decide +kernel]
      constructor
      · intro q
        refine ⟨q.1, ?_, ?_, ?_, ?_⟩
        · rw [q.2 0 (by decide)]; decide +kernel
        · rw [q.2 1 (by decide)]; decide +kernel
        · rw [q.2 2 (by decide)]; decide +kernel
        · rw [q.2 3 (by decide)]; decide +kernel
      · rintro ⟨q, z0, z1, z2, z3⟩
        refine ⟨q, fun i hi => ?_⟩
        have ci : i = 0 ∨ i = 1 ∨ i = 2 ∨ i = 3 := by omega
        rcases ci with rfl | rfl | rfl | rfl
        · exact gi _ _ (by decide +kernel) _ z0
        · exact gi _ _ (by decide +kernel) _ z1
        · exact gi _ _ (by decide +kernel) _ z2
        · exact gi _ _ (by decide +kernel) _ z3
    · rw [show vN 11 = 20317291 from rfl, wm_11 t1 t6 hl, show (vTx 11).length = 5 from by decide +kernel]
      constructor
      · intro q
        refine ⟨q.1, ?_, ?_, ?_, ?_, ?_⟩
        · rw [q.2 0 (by decide)]; decide +kernel
        · rw [q.2 1 (by decide)]; decide +kernel
        · rw [q.2 2 (by decide)]; decide +kernel
        · rw [q.2 3 (by decide)]; decide +kernel
        · rw [q.2 4 (by decide)]; decide +kernel
      · rintro ⟨q, z0, z1, z2, z3, z4⟩
        refine ⟨q, fun i hi => ?_⟩
        have ci : i = 0 ∨ i = 1 ∨ i = 2 ∨ i = 3 ∨ i = 4 := by omega
        rcases ci with rfl | rfl | rfl | rfl | rfl
        · exact gi _ _ (by decide +kernel) _ z0
        · exact gi _ _ (by decide +kernel) _ z1
        · exact gi _ _ (by decide +kernel) _ z2
        · exact gi _ _ (by decide +kernel) _ z3
        · exact gi _ _ (by decide +kernel) _ z4
    · rw [show vN 12 = 755156 from rfl, wm_12 t1 t6 hl, show (vTx 12).length = 4 from by decide +kernel]
      constructor
      · intro q
        refine ⟨q.1, ?_, ?_, ?_, ?_⟩
        · rw [q.2 0 (by decide)]; decide +kernel
        · rw [q.2 1 (by decide)]; decide +kernel
        · rw [q.2 2 (by decide)]; decide +kernel
        · rw [q.2 3 (by decide)]; decide +kernel
      · rintro ⟨q, z0, z1, z2, z3⟩
        refine ⟨q, fun i hi => ?_⟩
        have ci : i = 0 ∨ i = 1 ∨ i = 2 ∨ i = 3 := by omega
        rcases ci with rfl | rfl | rfl | rfl
        · exact gi _ _ (by decide +kernel) _ z0
        · exact gi _ _ (by decide +kernel) _ z1
        · exact gi _ _ (by decide +kernel) _ z2
        · exact gi _ _ (by decide +kernel) _ z3
  · unfold wdC
    rw [if_neg c6]
    refine ⟨fun q => absurd q.1 (by omega), fun q => absurd q.symm n99⟩
/-- the class's verb, by the code -/
def vbR (b : Bool) (c : Int32) : Int := if b = true then (if 1 ≤ c.toInt ∧ c.toInt ≤ 7 then c.toInt + 5 else -1) else (if 11 ≤ c.toInt ∧ c.toInt ≤ 16 then c.toInt - 11 else -1)
end FG
end
section
/-! ===== the class's reader: verbs, judging ===== -/
section FH
variable {X : pm_X} {k : Nat} {w w' : pm_W} {r : Option Value} {p p1 p2 p3 : Int32}
/-- the current token is the one from i on -/
def CTk (w : pm_W) (bs : Nat → Int32) (n i : Nat) : Prop := gI w 23 6 = Int32.ofNat (tkK bs n i) ∧ (gI w 23 7).toInt = (tkS bs n i : Nat) ∧ (gI w 23 5).toInt = (tkN bs n i : Nat) ∧ (tkK bs n i = 2 → (gI w 23 8).toInt = tkV bs n i)
theorem tkS_b {bs : Nat → Int32} {n i : Nat} : i ≤ tkS bs n i ∧ tkS bs n i ≤ i + (n - i) := spn_le _ _
theorem tkE_b {P : Int32 → Bool} {bs : Nat → Int32} {n s : Nat} : s ≤ tkE P bs n s ∧ tkE P bs n s ≤ s + (n - s) := spn_le _ _
theorem tkE_1 {P : Int32 → Bool} {bs : Nat → Int32} {n s : Nat} (h : s < n) (hp : P (bs s) = true) : s + 1 ≤ tkE P bs n s := by
  unfold tkE
  rw [spn_t h hp]
  exact (spn_le _ _).1
theorem tkE_all {P : Int32 → Bool} {bs : Nat → Int32} {n : Nat} : ∀ (m s : Nat), n - s ≤ m → ∀ j, s ≤ j → j < tkE P bs n s → P (bs j) = true
  | 0, s, hm, j, h1, h2 => by
    unfold tkE at h2
    rw [show n - s = 0 by omega] at h2
    exact absurd h2 (by show ¬ j < s; omega)
  | m + 1, s, hm, j, h1, h2 => by
    by_cases c : s < n
    · cases hp : P (bs s) with
      | false =>
        unfold tkE at h2
        rw [spn_f hp] at h2
        omega
      | true =>
        by_cases e : j = s
        · rw [e]; exact hp
        · unfold tkE at h2
          rw [spn_t c hp] at h2
          exact tkE_all m (s + 1) (by omega) j (by omega) h2
    · unfold tkE at h2
      rw [spn_n (by omega)] at h2
      omega
/-- a token goes on, and ends within -/
theorem tkN_b {bs : Nat → Int32} {n i : Nat} (h : tkK bs n i ≠ 0) : tkS bs n i < n ∧ tkS bs n i + 1 ≤ tkN bs n i ∧ tkN bs n i ≤ n := by
  unfold tkK at h
  unfold tkN
  by_cases c : n ≤ tkS bs n i
  · rw [if_pos c] at h
    exact absurd rfl h
  · rw [if_neg c]
    refine ⟨by omega, ?_⟩
    by_cases c1 : isLt (bs (tkS bs n i)) = true
    · rw [if_pos c1]
      have q := tkE_b (P := isLt) (bs := bs) (n := n) (s := tkS bs n i)
      have q2 := tkE_1 (n := n) (by omega) c1
      omega
    · rw [if_neg c1]
      by_cases c2 : isDg (bs (tkS bs n i)) = true
      · rw [if_pos c2]
        have q := tkE_b (P := isDg) (bs := bs) (n := n) (s := tkS bs n i)
        have q2 := tkE_1 (n := n) (by omega) c2
        omega
      · rw [if_neg c2]
        omega
theorem tkN_n {bs : Nat → Int32} {n i : Nat} (hi : i ≤ n) : tkS bs n i ≤ n ∧ tkN bs n i ≤ n := by
  have q := tkS_b (bs := bs) (n := n) (i := i)
  refine ⟨by omega, ?_⟩
  by_cases c : tkK bs n i = 0
  · unfold tkK at c
    unfold tkN
    by_cases c1 : n ≤ tkS bs n i
    · rw [if_pos c1]; omega
    · rw [if_neg c1] at c
      by_cases c2 : isLt (bs (tkS bs n i)) = true
      · rw [if_pos c2] at c; exact absurd c (by decide)
      · rw [if_neg c2] at c
        by_cases c3 : isDg (bs (tkS bs n i)) = true
        · rw [if_pos c3] at c
          by_cases c4 : tkE isDg bs n (tkS bs n i) ≤ tkS bs n i + 2
          · rw [if_pos c4] at c; exact absurd c (by decide)
          · rw [if_neg c4] at c; exact absurd c (by decide)
        · rw [if_neg c3] at c
          by_cases c4 : bs (tkS bs n i) = 59
          · rw [if_pos c4] at c; exact absurd c (by decide)
          · rw [if_neg c4] at c; exact absurd c (by decide)
  · exact (tkN_b c).2.2
theorem tkK_4 {bs : Nat → Int32} {n i : Nat} : tkK bs n i ≤ 4 := by
  unfold tkK
  split
  · omega
  · split
    · omega
    · split
      · split <;> omega
      · split <;> omega
theorem tkK_inj {a b : Nat} (ha : a ≤ 4) (hb : b ≤ 4) : Int32.ofNat a = Int32.ofNat b ↔ a = b := by
  have ca : a = 0 ∨ a = 1 ∨ a = 2 ∨ a = 3 ∨ a = 4 := by omega
  have cb' : b = 0 ∨ b = 1 ∨ b = 2 ∨ b = 3 ∨ b = 4 := by omega
  rcases ca with rfl | rfl | rfl | rfl | rfl <;> rcases cb' with rfl | rfl | rfl | rfl | rfl <;> decide +kernel
/-- the letters of a token -/
theorem tkK_1 {bs : Nat → Int32} {n i : Nat} (h : tkK bs n i = 1) : ∀ j, j < tkN bs n i - tkS bs n i → isLt (bs (tkS bs n i + j)) = true := by
  have c1 : ¬ n ≤ tkS bs n i := by
    intro c
    unfold tkK at h
    rw [if_pos c] at h
    exact absurd h (by decide)
  have c2 : isLt (bs (tkS bs n i)) = true := by
    cases q : isLt (bs (tkS bs n i)) with
    | true => rfl
    | false =>
      unfold tkK at h
      rw [if_neg c1, q, if_neg Bool.false_ne_true] at h
      by_cases c3 : isDg (bs (tkS bs n i)) = true
      · rw [if_pos c3] at h
        by_cases c4 : tkE isDg bs n (tkS bs n i) ≤ tkS bs n i + 2
        · rw [if_pos c4] at h; exact absurd h (by decide)
        · rw [if_neg c4] at h; exact absurd h (by decide)
      · rw [if_neg c3] at h
        by_cases c4 : bs (tkS bs n i) = 59
        · rw [if_pos c4] at h; exact absurd h (by decide)
        · rw [if_neg c4] at h; exact absurd h (by decide)
  have e : tkN bs n i = tkE isLt bs n (tkS bs n i) := by
    unfold tkN
    rw [if_neg c1, if_pos c2]
  rw [e]
  intro j hj
  exact tkE_all (P := isLt) (bs := bs) (n := n) (n - tkS bs n i) (tkS bs n i) (Nat.le_refl _) (tkS bs n i + j) (by omega) (by omega)
/-- the verb that the class finds: by the code of the letters -/
theorem F30 (hX : XO X) (hS : SK w) {n i : Nat} (hT : CTk w (cb w) n i) (hn : cn w = n) (hi : i ≤ n) (h : PS X k 30 0 [.ref 23, .int p, pm_dead, pm_dead, pm_dead] [] w r w') : w' = w ∧ ∃ y : Int32, r = some (.int y) ∧ y.toInt = (if tkK (cb w) n i = 1 then vbR (decide (p = 0)) (wdC (cb w) (tkS (cb w) n i) (tkN (cb w) n i)) else -1) := by
  cases k with
  | zero => exact (PS_0 h).elim
  | succ k =>
    have h := U30_0 hS h
    have m1 : ((-1 : Int32)).toInt = -1 := by decide +kernel
    by_cases c1 : gI w 23 6 = 1
    · rw [if_pos c1] at h
      rw [hT.1, show (1 : Int32) = Int32.ofNat 1 from by decide +kernel, tkK_inj tkK_4 (by decide)] at c1
      rw [if_pos c1]
      have hb := tkN_b (bs := cb w) (n := n) (i := i) (by rw [c1]; decide)
      have hl := tkK_1 c1
      by_cases c2 : p = 0
      · rw [if_pos c2] at h
        simp only [c2, decide_true] at h ⊢
        obtain ⟨z1, z2⟩ := F30_36 hX (b0 := 13) (by decide +kernel) (by decide) _ _ 6 _ hS (by decide +kernel) hT.2.1 hT.2.2.1 (by omega) (by omega) h
        refine ⟨z1, ?_⟩
        unfold vbR
        rw [if_pos rfl]
        rcases z2 with ⟨z2, z3⟩ | ⟨u, y, z2, z3, z4, z5, z6⟩
        · refine ⟨_, z2, ?_⟩
          rw [m1, if_neg]
          intro q
          obtain ⟨v, hv⟩ : ∃ v : Nat, v = ((wdC (cb w) (tkS (cb w) n i) (tkN (cb w) n i)).toInt + 5).toNat := ⟨_, rfl⟩
          refine z3 v (by omega) (by omega) ((mt_wd (by omega) (by omega) hl).mpr ?_)
          refine Int32.toInt_inj.mp ?_
          have cv : v = 6 ∨ v = 7 ∨ v = 8 ∨ v = 9 ∨ v = 10 ∨ v = 11 ∨ v = 12 := by omega
          rcases cv with rfl | rfl | rfl | rfl | rfl | rfl | rfl
          · rw [show (vC 6).toInt = 1 from by decide +kernel]; omega
          · rw [show (vC 7).toInt = 2 from by decide +kernel]; omega
          · rw [show (vC 8).toInt = 3 from by decide +kernel]; omega
          · rw [show (vC 9).toInt = 4 from by decide +kernel]; omega
          · rw [show (vC 10).toInt = 5 from by decide +kernel]; omega
          · rw [show (vC 11).toInt = 6 from by decide +kernel]; omega
          · rw [show (vC 12).toInt = 7 from by decide +kernel]; omega
        · refine ⟨y, z2, ?_⟩
          have ec := (mt_wd (by omega) (by omega) hl).mp z6
          rw [z3, ec]
          have cv : u = 6 ∨ u = 7 ∨ u = 8 ∨ u = 9 ∨ u = 10 ∨ u = 11 ∨ u = 12 := by omega
          rcases cv with rfl | rfl | rfl | rfl | rfl | rfl | rfl <;> decide +kernel
      · rw [if_neg c2] at h
        simp only [c2, decide_false] at h ⊢
        obtain ⟨z1, z2⟩ := F30_36 hX (b0 := 6) (by decide +kernel) (by decide) _ _ 0 _ hS (by decide +kernel) hT.2.1 hT.2.2.1 (by omega) (by omega) h
        refine ⟨z1, ?_⟩
        unfold vbR
        rw [if_neg Bool.false_ne_true]
        rcases z2 with ⟨z2, z3⟩ | ⟨u, y, z2, z3, z4, z5, z6⟩
        · refine ⟨_, z2, ?_⟩
          rw [m1, if_neg]
          intro q
          obtain ⟨v, hv⟩ : ∃ v : Nat, v = ((wdC (cb w) (tkS (cb w) n i) (tkN (cb w) n i)).toInt - 11).toNat := ⟨_, rfl⟩
          refine z3 v (by omega) (by omega) ((mt_wd (by omega) (by omega) hl).mpr ?_)
          refine Int32.toInt_inj.mp ?_
          have cv : v = 0 ∨ v = 1 ∨ v = 2 ∨ v = 3 ∨ v = 4 ∨ v = 5 := by omega
          rcases cv with rfl | rfl | rfl | rfl | rfl | rfl
          · rw [show (vC 0).toInt = 11 from by decide +kernel]; omega
          · rw [show (vC 1).toInt = 12 from by decide +kernel]; omega
          · rw [show (vC 2).toInt = 13 from by decide +kernel]; omega
          · rw [show (vC 3).toInt = 14 from by decide +kernel]; omega
          · rw [show (vC 4).toInt = 15 from by decide +kernel]; omega
          · rw [show (vC 5).toInt = 16 from by decide +kernel]; omega
        · refine ⟨y, z2, ?_⟩
          have ec := (mt_wd (by omega) (by omega) hl).mp z6
          rw [z3, ec]
          have cv : u = 0 ∨ u = 1 ∨ u = 2 ∨ u = 3 ∨ u = 4 ∨ u = 5 := by omega
          rcases cv with rfl | rfl | rfl | rfl | rfl | rfl <;> decide +kernel
    · rw [if_neg c1] at h
      rw [hT.1, show (1 : Int32) = Int32.ofNat 1 from by decide +kernel, tkK_inj tkK_4 (by decide)] at c1
      rw [if_neg c1]
      exact ⟨h.2, _, h.1, m1⟩
theorem F45 (hS : SK w) (h : PS X k 45 0 [.int p] [] w r w') : r = some (.int (b2i (decide (p.toInt ≤ 5)))) ∧ w' = w := by
  cases k with
  | zero => exact (PS_0 h).elim
  | succ k =>
    have h := U45_0 hS h
    have e5 : (5 : Int32).toInt = 5 := by decide +kernel
    by_cases c : 5 < p
    · rw [if_pos c] at h
      rw [Int32.lt_iff_toInt_lt, e5] at c
      rw [decide_eq_false (show ¬ p.toInt ≤ 5 by omega)]
      exact h
    · rw [if_neg c] at h
      rw [Int32.lt_iff_toInt_lt, e5] at c
      rw [decide_eq_true (show p.toInt ≤ 5 by omega)]
      exact h
/-- one want or one act too many -/
def tooM (w : pm_W) (v : Int) : Bool := if v = 12 then decide (7 ≤ (gI w 24 2).toInt) else if v ≤ 5 then decide (30 ≤ (gI w 29 0).toInt) else false
theorem F44 (hS : SK w) (h : PS X k 44 0 [.ref 23, .int p] [] w r w') : r = some (.int (b2i (tooM w p.toInt))) ∧ w' = w := by
  cases k with
  | zero => exact (PS_0 h).elim
  | succ k =>
    have h := U44_0 hS h
    have e12 : (12 : Int32).toInt = 12 := by decide +kernel
    have e7 : (7 : Int32).toInt = 7 := by decide +kernel
    have e30 : (30 : Int32).toInt = 30 := by decide +kernel
    unfold tooM
    by_cases c : p = 12
    · rw [if_pos c] at h
      rw [if_pos (by rw [c]; exact e12)]
      by_cases c2 : gI w 24 2 < 7
      · rw [if_pos c2] at h
        rw [Int32.lt_iff_toInt_lt, e7] at c2
        rw [decide_eq_false (by omega)]
        exact h
      · rw [if_neg c2] at h
        rw [Int32.lt_iff_toInt_lt, e7] at c2
        rw [decide_eq_true (by omega)]
        exact h
    · rw [if_neg c] at h
      rw [if_neg (fun q => c (Int32.toInt_inj.mp (q.trans e12.symm)))]
      have h := use_p hS h (fun _ _ q => F45 hS q)
      by_cases c1 : p.toInt ≤ 5
      · rw [if_pos c1]
        rw [decide_eq_true c1, if_neg (by decide +kernel)] at h
        by_cases c2 : gI w 29 0 < 30
        · rw [if_pos c2] at h
          rw [Int32.lt_iff_toInt_lt, e30] at c2
          rw [decide_eq_false (by omega)]
          exact h
        · rw [if_neg c2] at h
          rw [Int32.lt_iff_toInt_lt, e30] at c2
          rw [decide_eq_true (by omega)]
          exact h
      · rw [if_neg c1]
        rw [decide_eq_false c1, if_pos (by decide +kernel)] at h
        exact h
/-- the first fault stays -/
theorem F46 (hS : SK w) (h : PS X k 46 0 [.ref 23, .int p1, .int p2] [] w r w') : r = none ∧ FM [(23, 10), (23, 11)] [] w w' ∧ gI w' 23 10 = (if gI w 23 10 = 0 then p1 else gI w 23 10) ∧ gI w' 23 11 = (if gI w 23 10 = 0 then p2 else gI w 23 11) := by
  cases k with
  | zero => exact (PS_0 h).elim
  | succ k =>
    have h := U46_0 hS h
    by_cases c : gI w 23 10 = 0
    · rw [if_pos c] at h
      rw [if_pos c, if_pos c]
      obtain ⟨z1, z2⟩ := h _ rfl _ rfl
      rw [z2]
      refine ⟨z1, FM_trans (FM_sI hS (by decide)) (FM_sI (SK_sI hS) (by decide)), ?_, ?_⟩
      · rw [gI_sI_ne (by decide), gI_sI (SK_isF hS (by decide +kernel))]
      · rw [gI_sI (SK_isF (SK_sI hS) (by decide +kernel))]
    · rw [if_neg c] at h
      rw [if_neg c, if_neg c]
      obtain ⟨z1, z2⟩ := h
      rw [z2]
      exact ⟨z1, FM_refl hS, rfl, rfl⟩
end FH
end
