/-! ===== worlds: what a write leaves; frames; how a call's answer is used ===== -/
section FA
variable {w w1 w2 w3 : pm_W} {a b n m i : Nat} {x y : Int32} {xs : List Int32}
theorem gO_sA : gO (sA w a xs) b = gO w b := by
  unfold sA
  split
  · rename_i t ys hw
    unfold gO
    by_cases e : a = b
    · subst e
      rw [wk_eq hw, hw]
    · rw [wk_ne e]
  · rfl
theorem gV_sA : gV (sA w a xs) b n = gV w b n := by unfold gV; rw [gO_sA]
theorem gI_sA : gI (sA w a xs) b n = gI w b n := by unfold gI; rw [gV_sA]
theorem gQ_sA : gQ (sA w a xs) b = gQ w b := by
  unfold sA
  split
  · rename_i t ys hw
    unfold gQ
    by_cases e : a = b
    · subst e
      rw [wk_eq hw, hw]
    · rw [wk_ne e]
  · rfl
theorem gA_sA_ne (h : a ≠ b) : gA (sA w a xs) b = gA w b := by
  unfold sA
  split
  · unfold gA
    rw [wk_ne h]
  · rfl
/-- an array stands there -/
def isA (w : pm_W) (a : Nat) : Prop := ∃ t ys, w[a]? = some (.inl (t, .inl ys))
theorem gA_sA (h : isA w a) : gA (sA w a xs) a = xs := by
  obtain ⟨t, ys, hw⟩ := h
  unfold sA gA
  rw [hw]
  show (match (w.set a (.inl (t, .inl xs)))[a]? with | some (.inl (_, .inl xs)) => xs | _ => []) = xs
  rw [wk_eq hw]
def sk_a (a : Nat) : Bool := match sk0[a]? with
  | some (.inl (_, .inl _)) => true
  | _ => false
theorem SK_isA (hS : SK w) (h : sk_a a = true) : isA w a := by
  unfold sk_a at h
  cases hw : w[a]? with
  | none =>
    have e : sk0[a]? = none := by rw [← show w.map sk_e = sk0 from hS, List.getElem?_map, hw]; rfl
    rw [e] at h
    cases h
  | some q =>
    rw [SK_at hS hw] at h
    cases q with
    | inr q => cases h
    | inl q =>
      obtain ⟨t, q⟩ := q
      rcases q with q | q | q
      · exact ⟨t, q, hw⟩
      · cases h
      · cases h
theorem aI_isA (h : aI w a x) : isA w a := by
  unfold aI iN gA at h
  split at h
  · rename_i t ys hw
    exact ⟨t, ys, hw⟩
  · simp only [List.length_nil] at h
    omega
theorem gA_aS (h : isA w a) : gA (aS w a x y) a = (gA w a).set x.toNatClampNeg y := gA_sA h
theorem gA_aS_ne (h : a ≠ b) : gA (aS w a x y) b = gA w b := gA_sA_ne h
theorem gI_aS : gI (aS w a x y) b n = gI w b n := gI_sA
/-! fields -/
theorem gA_set_o {ci : Nat} {fs gs : List Value} (hw : w[a]? = some (.inr (ci, fs))) : gA (w.set a (.inr (ci, gs))) b = gA w b := by
  unfold gA
  by_cases e : a = b
  · subst e
    rw [wk_eq hw, hw]
  · rw [wk_ne e]
theorem gQ_set_o {ci : Nat} {fs gs : List Value} (hw : w[a]? = some (.inr (ci, fs))) : gQ (w.set a (.inr (ci, gs))) b = gQ w b := by
  unfold gQ
  by_cases e : a = b
  · subst e
    rw [wk_eq hw, hw]
  · rw [wk_ne e]
theorem gA_sV {v : Value} : gA (sV w a n v) b = gA w b := by
  unfold sV
  split
  · rename_i ci fs hw
    exact gA_set_o hw
  · rfl
theorem gQ_sV {v : Value} : gQ (sV w a n v) b = gQ w b := by
  unfold sV
  split
  · rename_i ci fs hw
    exact gQ_set_o hw
  · rfl
theorem gV_set_ne {ci : Nat} {fs : List Value} {v : Value} (hw : w[a]? = some (.inr (ci, fs))) (h : ¬ (a = b ∧ n = m)) : gV (w.set a (.inr (ci, fs.set n v))) b m = gV w b m := by
  unfold gV gO
  by_cases e : a = b
  · subst e
    rw [wk_eq hw, hw]
    show (fs.set n v).getD m .null = fs.getD m .null
    rw [List.getD_eq_getElem?_getD, List.getD_eq_getElem?_getD, List.getElem?_set_ne (fun q => h ⟨rfl, q⟩)]
  · rw [wk_ne e]
theorem gV_sV_ne {v : Value} (h : ¬ (a = b ∧ n = m)) : gV (sV w a n v) b m = gV w b m := by
  unfold sV
  split
  · rename_i ci fs hw
    exact gV_set_ne hw h
  · rfl
theorem gV_sI_ne (h : ¬ (a = b ∧ n = m)) : gV (sI w a n x) b m = gV w b m := by
  unfold sI
  split
  · exact gV_sV_ne h
  · rfl
theorem gI_sI_ne (h : ¬ (a = b ∧ n = m)) : gI (sI w a n x) b m = gI w b m := by unfold gI; rw [gV_sI_ne h]
theorem gA_sI : gA (sI w a n x) b = gA w b := by
  unfold sI
  split
  · exact gA_sV
  · rfl
theorem gQ_sI : gQ (sI w a n x) b = gQ w b := by
  unfold sI
  split
  · exact gQ_sV
  · rfl
def isF (w : pm_W) (a n : Nat) : Prop := ∃ z, gV w a n = .int z
theorem gV_sI (h : isF w a n) : gV (sI w a n x) a n = .int x := by
  obtain ⟨z, hz⟩ := h
  obtain ⟨ci, fs, hw, hf⟩ := gV_inv hz (by intro q; cases q)
  unfold sI
  rw [hz]
  show gV (sV w a n (.int x)) a n = .int x
  unfold sV
  rw [hw]
  show gV (w.set a (.inr (ci, fs.set n (.int x)))) a n = .int x
  refine gV_of (wk_eq hw) ?_
  obtain ⟨hl, _⟩ := List.getElem?_eq_some_iff.mp hf
  exact List.getElem?_set_self hl
theorem gI_sI (h : isF w a n) : gI (sI w a n x) a n = x := by
  unfold gI
  rw [gV_sI h]
  rfl
theorem gR_sI : gR (sI w a n x) b m = gR w b m := by
  by_cases e : a = b ∧ n = m
  · obtain ⟨rfl, rfl⟩ := e
    unfold sI
    split
    · rename_i z hz
      have h1 : gR w a n = 0 := by unfold gR; rw [hz]; rfl
      have h2 : gV (sI w a n x) a n = .int x := gV_sI ⟨z, hz⟩
      unfold sI at h2
      rw [hz] at h2
      unfold gR at h1 ⊢
      rw [h1]
      have h2 : gV (sV w a n (.int x)) a n = .int x := h2
      rw [h2]
      rfl
    · rfl
  · unfold gR
    rw [gV_sI_ne e]
def sk_i (a n : Nat) : Bool := match sk0[a]? with
  | some (.inr (_, fs)) => Nat.beq (sk_k (fs.getD n .null)) 1
  | _ => false
theorem SK_isF (hS : SK w) (h : sk_i a n = true) : isF w a n := by
  unfold sk_i at h
  cases hw : w[a]? with
  | none =>
    have e : sk0[a]? = none := by rw [← show w.map sk_e = sk0 from hS, List.getElem?_map, hw]; rfl
    rw [e] at h
    cases h
  | some q =>
    rw [SK_at hS hw] at h
    cases q with
    | inl q =>
      obtain ⟨t, q⟩ := q
      rcases q with q | q | q <;> cases h
    | inr q =>
      obtain ⟨ci, fs⟩ := q
      have h : Nat.beq (sk_k ((sk_f ci 0 fs).getD n .null)) 1 = true := h
      have h := Nat.eq_of_beq_eq_true h
      rw [List.getD_eq_getElem?_getD, sk_fget] at h
      cases hv : fs[n]? with
      | none =>
        rw [hv] at h
        cases h
      | some v =>
        rw [hv] at h
        have h : sk_k (sk_v ci (0 + n) v) = 1 := h
        rw [sk_vk] at h
        refine ⟨vI v, ?_⟩
        rw [gV_of hw hv]
        cases v <;> first | rfl | cases h
end FA
/-! frames: no field but those of fs, no array but those of as -/
def FM (fs : List (Nat × Nat)) (as : List Nat) (w w' : pm_W) : Prop := (∀ a n, (a, n) ∉ fs → gV w' a n = gV w a n) ∧ (∀ a, a ∉ as → gA w' a = gA w a) ∧ (∀ a, gQ w' a = gQ w a) ∧ SK w'
section FM
variable {fs gs : List (Nat × Nat)} {as bs : List Nat} {w w1 w2 : pm_W} {a n : Nat} {x y : Int32}
theorem FM_refl (hS : SK w) : FM fs as w w := ⟨fun _ _ _ => rfl, fun _ _ => rfl, fun _ => rfl, hS⟩
theorem FM_trans (h1 : FM fs as w w1) (h2 : FM fs as w1 w2) : FM fs as w w2 := ⟨fun a n h => (h2.1 a n h).trans (h1.1 a n h), fun a h => (h2.2.1 a h).trans (h1.2.1 a h), fun a => (h2.2.2.1 a).trans (h1.2.2.1 a), h2.2.2.2⟩
theorem FM_mono (h : FM fs as w w1) (hf : ∀ p ∈ fs, p ∈ gs) (ha : ∀ p ∈ as, p ∈ bs) : FM gs bs w w1 := ⟨fun a n q => h.1 a n (fun z => q (hf _ z)), fun a q => h.2.1 a (fun z => q (ha _ z)), h.2.2.1, h.2.2.2⟩
theorem FM_sI (hS : SK w) (h : (a, n) ∈ fs) : FM fs as w (sI w a n x) := ⟨fun b m q => gV_sI_ne (fun e => q (by rw [← e.1, ← e.2]; exact h)), fun b _ => gA_sI, fun b => gQ_sI, SK_sI hS⟩
theorem FM_sA {xs : List Int32} (hl : xs.length = (gA w a).length) (hS : SK w) (h : a ∈ as) : FM fs as w (sA w a xs) := ⟨fun b m _ => gV_sA, fun b q => gA_sA_ne (fun e => q (e ▸ h)), fun b => gQ_sA, SK_sA hl hS⟩
theorem FM_aS (hS : SK w) (h : a ∈ as) : FM fs as w (aS w a x y) := FM_sA (List.length_set ..) hS h
theorem FM_i (h : FM fs as w w1) (q : (a, n) ∉ fs) : gI w1 a n = gI w a n := by unfold gI; rw [h.1 a n q]
theorem FM_r (h : FM fs as w w1) (q : (a, n) ∉ fs) : gR w1 a n = gR w a n := by unfold gR; rw [h.1 a n q]
theorem FM_a (h : FM fs as w w1) (q : a ∉ as) : gA w1 a = gA w a := h.2.1 a q
end FM
/-! a call's answer, put into what follows -/
section USE
variable {X : pm_X} {k mi : Nat} {ls : List Value} {w : pm_W}
theorem use_v {C : pm_W → Prop} (h : ∃ (r1 : Option Value) (w2 : pm_W), PS X k mi 0 ls [] w r1 w2 ∧ (r1 = none → SK w2 → C w2)) {D : pm_W → Prop} (F : ∀ r1 w2, PS X k mi 0 ls [] w r1 w2 → r1 = none ∧ SK w2 ∧ D w2) : ∃ w2, SK w2 ∧ D w2 ∧ C w2 := by
  obtain ⟨r1, w2, h1, h2⟩ := h
  obtain ⟨e, s, q⟩ := F _ _ h1
  exact ⟨w2, s, q, h2 e s⟩
/-- a call that answers a number that is known, and changes nothing -/
theorem use_p {C : Int32 → pm_W → Prop} {x : Int32} (hS : SK w) (h : ∃ (r1 : Option Value) (w2 : pm_W), PS X k mi 0 ls [] w r1 w2 ∧ (∀ x3 : Int32, r1 = some (.int x3) → SK w2 → C x3 w2)) (F : ∀ r1 w2, PS X k mi 0 ls [] w r1 w2 → r1 = some (.int x) ∧ w2 = w) : C x w := by
  obtain ⟨r1, w2, h1, h2⟩ := h
  obtain ⟨e, q⟩ := F _ _ h1
  subst q
  exact h2 x e hS
end USE
