/-! ===== runs that end: what a step leaves of them (forward rules; no measure, no bound) ===== -/
def vI : Value → Int32
  | .int x => x
  | _ => 0
def vR : Value → Nat
  | .ref b => b
  | _ => 0
def vL : Value → Int64
  | .long x => x
  | _ => 0
/-- contents of an array of ints, bytes or booleans; fields of an object; contents of an array of objects; an array's type -/
def gA (w : pm_W) (a : Nat) : List Int32 := match w[a]? with
  | some (.inl (_, .inl xs)) => xs
  | _ => []
def gO (w : pm_W) (a : Nat) : List Value := match w[a]? with
  | some (.inr (_, fs)) => fs
  | _ => []
def gQ (w : pm_W) (a : Nat) : List (Option Nat) := match w[a]? with
  | some (.inl (_, .inr (.inr q))) => q
  | _ => []
def gT (w : pm_W) (a : Nat) : Nat := match w[a]? with
  | some (.inl (t, _)) => t
  | _ => 0
def gV (w : pm_W) (a n : Nat) : Value := (gO w a).getD n .null
def gI (w : pm_W) (a n : Nat) : Int32 := vI (gV w a n)
def gR (w : pm_W) (a n : Nat) : Nat := vR (gV w a n)
def gL (w : pm_W) (a n : Nat) : Int64 := vL (gV w a n)
def aG (w : pm_W) (a : Nat) (i : Int32) : Int32 := (gA w a).getD i.toNatClampNeg 0
def aQ (w : pm_W) (a : Nat) (i : Int32) : Value := pm_rf ((gQ w a).getD i.toNatClampNeg none)
def iN (i : Int32) (n : Nat) : Prop := 0 ≤ i.toInt ∧ i.toInt < n
def aI (w : pm_W) (a : Nat) (i : Int32) : Prop := iN i (gA w a).length
/-- texts and arrays outside -/
def xA (X : pm_X) (j : Nat) : List Int32 := match X j with
  | some (_, xs, _) => xs
  | _ => []
def xB (X : pm_X) (j : Nat) : Nat := match X j with
  | some (_, _, i) => i
  | _ => 0
def sA (w : pm_W) (a : Nat) (xs : List Int32) : pm_W := match w[a]? with
  | some (.inl (t, .inl _)) => w.set a (.inl (t, .inl xs))
  | _ => w
def aS (w : pm_W) (a : Nat) (i x : Int32) : pm_W := sA w a ((gA w a).set i.toNatClampNeg x)
def aB (w : pm_W) (a : Nat) (i x : Int32) : pm_W := aS w a i (cond (Nat.beq (gT w a) 1) (vp_nar .byte x) (vp_nar .boolean x))
def sV (w : pm_W) (a n : Nat) (v : Value) : pm_W := match w[a]? with
  | some (.inr (ci, fs)) => w.set a (.inr (ci, fs.set n v))
  | _ => w
def sI (w : pm_W) (a n : Nat) (x : Int32) : pm_W := match gV w a n with
  | .int _ => sV w a n (.int x)
  | _ => w
def sL (w : pm_W) (a n : Nat) (x : Int64) : pm_W := match gV w a n with
  | .long _ => sV w a n (.long x)
  | _ => w
/-- the fields whose references change, by class and field -/
def RFb (ci n : Nat) : Bool := match ci, n with
  | 7, 0 => true
  | 10, 0 => true
  | 6, 0 => true
  | 4, 3 => true
  | _, _ => false
def sR (w : pm_W) (a n b : Nat) : pm_W := match w[a]? with
  | some (.inr (ci, fs)) => cond (RFb ci n) (match fs[n]? with
    | some (.ref _) => w.set a (.inr (ci, fs.set n (.ref b)))
    | _ => w) w
  | _ => w
def sk_v (ci n : Nat) : Value → Value
  | .int _ => .int 0
  | .long _ => .long 0
  | .ref b => .ref (cond (RFb ci n) 0 b)
  | v => v
def sk_f (ci : Nat) : Nat → List Value → List Value
  | _, [] => []
  | n, v :: vs => sk_v ci n v :: sk_f ci (n + 1) vs
def sk_e : pm_E → pm_E
  | .inr (ci, fs) => .inr (ci, sk_f ci 0 fs)
  | .inl (t, .inl xs) => .inl (t, .inl (List.replicate xs.length 0))
  | .inl (t, x) => .inl (t, x)
def sk0 : List pm_E := [
  .inr (11, [.ref 1, .ref 21, .ref 22, .ref 23, .ref 33, .ref 42, .ref 55, .ref 68, .ref 83, .ref 85, .ref 86]),
  .inr (8, [.ref 2, .ref 3, .int 0, .int 0, .ref 4, .int 0, .int 0, .int 0]),
  .inl (3, .inr (.inr [some 5, some 10])),
  .inl (4, .inr (.inr [some 15, some 17, some 19])),
  .inl (1, .inl (List.replicate 600 0)),
  .inr (9, [.int 0, .int 0, .int 0, .ref 6, .ref 7, .ref 8, .ref 9]),
  .inl (0, .inl (List.replicate 81 0)),
  .inl (0, .inl (List.replicate 9 0)),
  .inl (0, .inl (List.replicate 9 0)),
  .inl (0, .inl (List.replicate 28 0)),
  .inr (9, [.int 0, .int 0, .int 0, .ref 11, .ref 12, .ref 13, .ref 14]),
  .inl (0, .inl (List.replicate 81 0)),
  .inl (0, .inl (List.replicate 9 0)),
  .inl (0, .inl (List.replicate 9 0)),
  .inl (0, .inl (List.replicate 28 0)),
  .inr (5, [.int 0, .ref 16]),
  .inl (0, .inl (List.replicate 270 0)),
  .inr (5, [.int 0, .ref 18]),
  .inl (0, .inl (List.replicate 270 0)),
  .inr (5, [.int 0, .ref 20]),
  .inl (0, .inl (List.replicate 270 0)),
  .inl (5, .inr (.inr [some 87, some 107, some 127])),
  .inl (2, .inl (List.replicate 3 0)),
  .inr (4, [.ref 24, .ref 29, .ref 31, .ref 0, .int 0, .int 0, .int 0, .int 0, .int 0, .int 0, .int 0, .int 0]),
  .inr (9, [.int 0, .int 0, .int 0, .ref 25, .ref 26, .ref 27, .ref 28]),
  .inl (0, .inl (List.replicate 81 0)),
  .inl (0, .inl (List.replicate 9 0)),
  .inl (0, .inl (List.replicate 9 0)),
  .inl (0, .inl (List.replicate 28 0)),
  .inr (5, [.int 0, .ref 30]),
  .inl (0, .inl (List.replicate 270 0)),
  .inl (0, .inl (List.replicate 8 0)),
  .inl (1, .inl (List.replicate 0 0)),
  .inr (7, [.ref 0, .int 0, .int 0, .ref 39, .ref 40, .ref 41]),
  .inr (9, [.int 0, .int 0, .int 0, .ref 35, .ref 36, .ref 37, .ref 38]),
  .inl (0, .inl (List.replicate 81 0)),
  .inl (0, .inl (List.replicate 9 0)),
  .inl (0, .inl (List.replicate 9 0)),
  .inl (0, .inl (List.replicate 28 0)),
  .inl (0, .inl (List.replicate 81 0)),
  .inl (0, .inl (List.replicate 370 0)),
  .inl (0, .inl (List.replicate 6 0)),
  .inr (1, [.ref 43, .ref 44, .ref 45, .ref 46]),
  .inl (0, .inl (List.replicate 81 0)),
  .inl (0, .inl (List.replicate 9 0)),
  .inl (0, .inl (List.replicate 9 0)),
  .inr (7, [.ref 0, .int 0, .int 0, .ref 52, .ref 53, .ref 54]),
  .inr (9, [.int 0, .int 0, .int 0, .ref 48, .ref 49, .ref 50, .ref 51]),
  .inl (0, .inl (List.replicate 81 0)),
  .inl (0, .inl (List.replicate 9 0)),
  .inl (0, .inl (List.replicate 9 0)),
  .inl (0, .inl (List.replicate 28 0)),
  .inl (0, .inl (List.replicate 81 0)),
  .inl (0, .inl (List.replicate 370 0)),
  .inl (0, .inl (List.replicate 6 0)),
  .inr (6, [.ref 0, .int 0, .int 0, .ref 65, .ref 66, .ref 67, .int 0, .int 0, .long 0]),
  .inr (7, [.ref 0, .int 0, .int 0, .ref 62, .ref 63, .ref 64]),
  .inr (9, [.int 0, .int 0, .int 0, .ref 58, .ref 59, .ref 60, .ref 61]),
  .inl (0, .inl (List.replicate 81 0)),
  .inl (0, .inl (List.replicate 9 0)),
  .inl (0, .inl (List.replicate 9 0)),
  .inl (0, .inl (List.replicate 28 0)),
  .inl (0, .inl (List.replicate 81 0)),
  .inl (0, .inl (List.replicate 370 0)),
  .inl (0, .inl (List.replicate 6 0)),
  .inl (0, .inl (List.replicate 9 0)),
  .inl (0, .inl (List.replicate 6 0)),
  .inl (0, .inl (List.replicate 6 0)),
  .inr (10, [.ref 0, .ref 74, .ref 75, .ref 76, .ref 77, .ref 78, .ref 79, .int 0, .int 0]),
  .inr (9, [.int 0, .int 0, .int 0, .ref 70, .ref 71, .ref 72, .ref 73]),
  .inl (0, .inl (List.replicate 81 0)),
  .inl (0, .inl (List.replicate 9 0)),
  .inl (0, .inl (List.replicate 9 0)),
  .inl (0, .inl (List.replicate 28 0)),
  .inl (0, .inl (List.replicate 81 0)),
  .inl (0, .inl (List.replicate 81 0)),
  .inl (0, .inl (List.replicate 9 0)),
  .inl (0, .inl (List.replicate 128 0)),
  .inl (2, .inl (List.replicate 128 0)),
  .inr (0, [.ref 80, .ref 81, .ref 82]),
  .inl (0, .inl (List.replicate 144 0)),
  .inl (0, .inl (List.replicate 12 0)),
  .inl (0, .inl (List.replicate 12 0)),
  .inr (3, [.int 0, .int 0, .ref 84]),
  .inl (0, .inl (List.replicate 9 0)),
  .inr (2, [.int 0, .int 0, .int 0]),
  .inl (0, .inl (List.replicate 6 0)),
  .inr (8, [.ref 88, .ref 89, .int 0, .int 0, .ref 90, .int 0, .int 0, .int 0]),
  .inl (3, .inr (.inr [some 91, some 96])),
  .inl (4, .inr (.inr [some 101, some 103, some 105])),
  .inl (1, .inl (List.replicate 600 0)),
  .inr (9, [.int 0, .int 0, .int 0, .ref 92, .ref 93, .ref 94, .ref 95]),
  .inl (0, .inl (List.replicate 81 0)),
  .inl (0, .inl (List.replicate 9 0)),
  .inl (0, .inl (List.replicate 9 0)),
  .inl (0, .inl (List.replicate 28 0)),
  .inr (9, [.int 0, .int 0, .int 0, .ref 97, .ref 98, .ref 99, .ref 100]),
  .inl (0, .inl (List.replicate 81 0)),
  .inl (0, .inl (List.replicate 9 0)),
  .inl (0, .inl (List.replicate 9 0)),
  .inl (0, .inl (List.replicate 28 0)),
  .inr (5, [.int 0, .ref 102]),
  .inl (0, .inl (List.replicate 270 0)),
  .inr (5, [.int 0, .ref 104]),
  .inl (0, .inl (List.replicate 270 0)),
  .inr (5, [.int 0, .ref 106]),
  .inl (0, .inl (List.replicate 270 0)),
  .inr (8, [.ref 108, .ref 109, .int 0, .int 0, .ref 110, .int 0, .int 0, .int 0]),
  .inl (3, .inr (.inr [some 111, some 116])),
  .inl (4, .inr (.inr [some 121, some 123, some 125])),
  .inl (1, .inl (List.replicate 600 0)),
  .inr (9, [.int 0, .int 0, .int 0, .ref 112, .ref 113, .ref 114, .ref 115]),
  .inl (0, .inl (List.replicate 81 0)),
  .inl (0, .inl (List.replicate 9 0)),
  .inl (0, .inl (List.replicate 9 0)),
  .inl (0, .inl (List.replicate 28 0)),
  .inr (9, [.int 0, .int 0, .int 0, .ref 117, .ref 118, .ref 119, .ref 120]),
  .inl (0, .inl (List.replicate 81 0)),
  .inl (0, .inl (List.replicate 9 0)),
  .inl (0, .inl (List.replicate 9 0)),
  .inl (0, .inl (List.replicate 28 0)),
  .inr (5, [.int 0, .ref 122]),
  .inl (0, .inl (List.replicate 270 0)),
  .inr (5, [.int 0, .ref 124]),
  .inl (0, .inl (List.replicate 270 0)),
  .inr (5, [.int 0, .ref 126]),
  .inl (0, .inl (List.replicate 270 0)),
  .inr (8, [.ref 128, .ref 129, .int 0, .int 0, .ref 130, .int 0, .int 0, .int 0]),
  .inl (3, .inr (.inr [some 131, some 136])),
  .inl (4, .inr (.inr [some 141, some 143, some 145])),
  .inl (1, .inl (List.replicate 600 0)),
  .inr (9, [.int 0, .int 0, .int 0, .ref 132, .ref 133, .ref 134, .ref 135]),
  .inl (0, .inl (List.replicate 81 0)),
  .inl (0, .inl (List.replicate 9 0)),
  .inl (0, .inl (List.replicate 9 0)),
  .inl (0, .inl (List.replicate 28 0)),
  .inr (9, [.int 0, .int 0, .int 0, .ref 137, .ref 138, .ref 139, .ref 140]),
  .inl (0, .inl (List.replicate 81 0)),
  .inl (0, .inl (List.replicate 9 0)),
  .inl (0, .inl (List.replicate 9 0)),
  .inl (0, .inl (List.replicate 28 0)),
  .inr (5, [.int 0, .ref 142]),
  .inl (0, .inl (List.replicate 270 0)),
  .inr (5, [.int 0, .ref 144]),
  .inl (0, .inl (List.replicate 270 0)),
  .inr (5, [.int 0, .ref 146]),
  .inl (0, .inl (List.replicate 270 0)),
  .inr (12, [.ref 148, .ref 149, .int 0, .int 0, .int 0, .int 0, .int 0, .int 0, .int 0, .int 0, .ref 150, .ref 151, .ref 152, .ref 153, .int 0, .int 0, .int 0, .ref 154, .ref 155, .ref 156, .ref 157, .ref 158, .ref 159, .int 0, .int 0, .ref 160, .ref 161, .ref 162, .ref 163, .ref 164, .ref 165, .int 0, .int 0, .int 0, .ref 166, .int 0]),
  .inl (0, .inl (List.replicate 6760 0)),
  .inl (2, .inl (List.replicate 3 0)),
  .inl (0, .inl (List.replicate 272 0)),
  .inl (0, .inl (List.replicate 8 0)),
  .inl (0, .inl (List.replicate 81 0)),
  .inl (0, .inl (List.replicate 400 0)),
  .inl (0, .inl (List.replicate 10 0)),
  .inl (0, .inl (List.replicate 9 0)),
  .inl (0, .inl (List.replicate 81 0)),
  .inl (0, .inl (List.replicate 400 0)),
  .inl (0, .inl (List.replicate 6 0)),
  .inl (0, .inl (List.replicate 6 0)),
  .inl (0, .inl (List.replicate 100 0)),
  .inl (0, .inl (List.replicate 100 0)),
  .inl (0, .inl (List.replicate 100 0)),
  .inl (0, .inl (List.replicate 10 0)),
  .inl (0, .inl (List.replicate 10 0)),
  .inl (0, .inl (List.replicate 10 0)),
  .inl (0, .inl (List.replicate 9 0))]
def SK (w : pm_W) : Prop := w.map sk_e = sk0
theorem sk_fget {ci : Nat} : ∀ (fs : List Value) (n k : Nat), (sk_f ci k fs)[n]? = (fs[n]?).map (sk_v ci (k + n))
  | [], n, k => by simp [sk_f]
  | v :: vs, 0, k => by simp [sk_f]
  | v :: vs, n + 1, k => by
    show (sk_f ci (k + 1) vs)[n]? = (vs[n]?).map (sk_v ci (k + (n + 1)))
    rw [sk_fget vs n (k + 1), show k + 1 + n = k + (n + 1) by omega]
theorem sk_fset {ci k n : Nat} {fs : List Value} {u v : Value} (h : fs[n]? = some u) (e : sk_v ci (k + n) v = sk_v ci (k + n) u) : sk_f ci k (fs.set n v) = sk_f ci k fs := by
  apply List.ext_getElem?
  intro i
  rw [sk_fget, sk_fget]
  by_cases hi : n = i
  · subst hi
    obtain ⟨hl, _⟩ := List.getElem?_eq_some_iff.mp h
    rw [List.getElem?_set_self hl, h]
    show some _ = some _
    rw [e]
  · rw [List.getElem?_set_ne hi]
theorem SK_at {w : pm_W} (hS : SK w) {a : Nat} {e : pm_E} (h : w[a]? = some e) : sk0[a]? = some (sk_e e) := by
  rw [← hS, List.getElem?_map, h]
  rfl
theorem SK_set {w : pm_W} (hS : SK w) {a : Nat} {e e' : pm_E} (h : w[a]? = some e) (he : sk_e e' = sk_e e) : SK (w.set a e') := by
  have h2 := SK_at hS h
  show (w.set a e').map sk_e = sk0
  rw [List.map_set, he, show w.map sk_e = sk0 from hS]
  apply List.ext_getElem?
  intro i
  by_cases hi : a = i
  · subst hi
    obtain ⟨hl, _⟩ := List.getElem?_eq_some_iff.mp h2
    rw [List.getElem?_set_self hl, h2]
  · rw [List.getElem?_set_ne hi]
theorem SK_sA {w : pm_W} {a : Nat} {xs : List Int32} (hl : xs.length = (gA w a).length) (hS : SK w) : SK (sA w a xs) := by
  unfold sA
  split
  · rename_i t ys h
    have eg : gA w a = ys := by unfold gA; rw [h]
    refine SK_set hS h ?_
    show (Sum.inl (t, Sum.inl (List.replicate xs.length 0)) : pm_E) = .inl (t, .inl (List.replicate ys.length 0))
    rw [hl, eg]
  · exact hS
theorem SK_aS {w : pm_W} {a : Nat} {i x : Int32} (hS : SK w) : SK (aS w a i x) := SK_sA (List.length_set ..) hS
theorem SK_aB {w : pm_W} {a : Nat} {i x : Int32} (hS : SK w) : SK (aB w a i x) := SK_aS hS
theorem gV_of {w : pm_W} {a n ci : Nat} {fs : List Value} {v : Value} (h : w[a]? = some (.inr (ci, fs))) (hv : fs[n]? = some v) : gV w a n = v := by
  unfold gV gO
  rw [h]
  show fs.getD n .null = v
  rw [List.getD_eq_getElem?_getD, hv]
  rfl
theorem gV_inv {w : pm_W} {a n : Nat} {v : Value} (h : gV w a n = v) (hn : v ≠ .null) : ∃ ci fs, w[a]? = some (.inr (ci, fs)) ∧ fs[n]? = some v := by
  unfold gV gO at h
  split at h
  · rename_i ci fs hw
    refine ⟨ci, fs, hw, ?_⟩
    rw [List.getD_eq_getElem?_getD] at h
    cases hq : fs[n]? with
    | none =>
      rw [hq] at h
      exact absurd h.symm hn
    | some u =>
      rw [hq] at h
      rw [show u = v from h]
  · exact absurd h.symm hn
theorem SK_sI {w : pm_W} {a n : Nat} {x : Int32} (hS : SK w) : SK (sI w a n x) := by
  unfold sI
  split
  · rename_i y hy
    obtain ⟨ci, fs, hw, hf⟩ := gV_inv hy (by intro q; cases q)
    unfold sV
    rw [hw]
    refine SK_set hS hw ?_
    show (Sum.inr (ci, sk_f ci 0 _) : pm_E) = .inr (ci, sk_f ci 0 _)
    rw [sk_fset (u := .int y) (v := .int x) hf rfl]
  · exact hS
theorem SK_sL {w : pm_W} {a n : Nat} {x : Int64} (hS : SK w) : SK (sL w a n x) := by
  unfold sL
  split
  · rename_i y hy
    obtain ⟨ci, fs, hw, hf⟩ := gV_inv hy (by intro q; cases q)
    unfold sV
    rw [hw]
    refine SK_set hS hw ?_
    show (Sum.inr (ci, sk_f ci 0 _) : pm_E) = .inr (ci, sk_f ci 0 _)
    rw [sk_fset (u := .long y) (v := .long x) hf rfl]
  · exact hS
theorem SK_sR {w : pm_W} {a n b : Nat} (hS : SK w) : SK (sR w a n b) := by
  unfold sR
  split
  · rename_i ci fs hw
    cases hb : RFb ci n with
    | false => exact hS
    | true =>
      show SK (match fs[n]? with | some (.ref _) => _ | _ => _)
      split
      · rename_i c hf
        refine SK_set hS hw ?_
        show (Sum.inr (ci, sk_f ci 0 _) : pm_E) = .inr (ci, sk_f ci 0 _)
        rw [sk_fset hf (by rw [Nat.zero_add]; unfold sk_v; rw [hb]; rfl)]
      · exact hS
  · exact hS
/-! kinds of fields, out of the skeleton -/
def sk_k (v : Value) : Nat := match v with
  | .int _ => 1
  | .long _ => 2
  | .ref _ => 3
  | _ => 0
theorem sk_vk {ci n : Nat} {v : Value} : sk_k (sk_v ci n v) = sk_k v := by
  cases v <;> rfl
def sk_ok (ci n t : Nat) : Bool := sk0.all fun e => match e with
  | .inr (c, fs) => !(Nat.beq c ci) || (Nat.beq (sk_k (fs.getD n .null)) t && Nat.blt n fs.length)
  | _ => true
theorem sk_kind {w : pm_W} (hS : SK w) {a ci n t : Nat} {fs : List Value} (h : w[a]? = some (.inr (ci, fs))) (hT : sk_ok ci n t = true) : ∃ v, fs[n]? = some v ∧ sk_k v = t := by
  have e := SK_at hS h
  have m := List.all_eq_true.mp hT _ (List.mem_of_getElem? e)
  have m : (!(Nat.beq ci ci) || (Nat.beq (sk_k ((sk_f ci 0 fs).getD n .null)) t && Nat.blt n (sk_f ci 0 fs).length)) = true := m
  rw [Nat.beq_refl] at m
  have m : (Nat.beq (sk_k ((sk_f ci 0 fs).getD n .null)) t && Nat.blt n (sk_f ci 0 fs).length) = true := m
  rw [Bool.and_eq_true] at m
  have h1 := Nat.eq_of_beq_eq_true m.1
  have h2 : n < (sk_f ci 0 fs).length := Nat.le_of_ble_eq_true m.2
  have h3 := List.getElem?_eq_getElem h2
  rw [sk_fget] at h3
  cases hv : fs[n]? with
  | none =>
    rw [hv] at h3
    cases h3
  | some v =>
    refine ⟨v, rfl, ?_⟩
    rw [List.getD_eq_getElem?_getD, sk_fget, hv] at h1
    have h1 : sk_k (sk_v ci (0 + n) v) = t := h1
    rw [sk_vk] at h1
    exact h1
theorem sk_int {w : pm_W} (hS : SK w) {a ci n : Nat} {fs : List Value} (h : w[a]? = some (.inr (ci, fs))) (hT : sk_ok ci n 1 = true) : fs[n]? = some (.int (gI w a n)) := by
  obtain ⟨v, hv, hk⟩ := sk_kind hS h hT
  have e := gV_of h hv
  unfold gI
  rw [e, hv]
  cases v <;> first | rfl | cases hk
theorem sk_long {w : pm_W} (hS : SK w) {a ci n : Nat} {fs : List Value} (h : w[a]? = some (.inr (ci, fs))) (hT : sk_ok ci n 2 = true) : fs[n]? = some (.long (gL w a n)) := by
  obtain ⟨v, hv, hk⟩ := sk_kind hS h hT
  have e := gV_of h hv
  unfold gL
  rw [e, hv]
  cases v <;> first | rfl | cases hk
theorem sk_ref {w : pm_W} (hS : SK w) {a ci n : Nat} {fs : List Value} (h : w[a]? = some (.inr (ci, fs))) (hT : sk_ok ci n 3 = true) : fs[n]? = some (.ref (gR w a n)) := by
  obtain ⟨v, hv, hk⟩ := sk_kind hS h hT
  have e := gV_of h hv
  unfold gR
  rw [e, hv]
  cases v <;> first | rfl | cases hk
/-- a reference that never changes -/
def sk_r (a n : Nat) : Nat := match sk0[a]? with
  | some (.inr (ci, fs)) => cond (RFb ci n) 0 (vR (fs.getD n .null))
  | _ => 0
theorem sk_fix {w : pm_W} (hS : SK w) {a n b : Nat} (hb : sk_r a n = b) (h0 : b ≠ 0) : gR w a n = b := by
  unfold sk_r at hb
  split at hb
  · rename_i ci fs e
    rw [← show w.map sk_e = sk0 from hS, List.getElem?_map] at e
    cases hw : w[a]? with
    | none =>
      rw [hw] at e
      cases e
    | some q =>
      rw [hw] at e
      have e : sk_e q = .inr (ci, fs) := Option.some.inj e
      cases q with
      | inl q =>
        obtain ⟨t, q⟩ := q
        rcases q with q | q | q <;> cases e
      | inr q =>
        obtain ⟨c, gs⟩ := q
        have e : (Sum.inr (c, sk_f c 0 gs) : pm_E) = .inr (ci, fs) := e
        cases e
        cases hr : RFb ci n with
        | true =>
          rw [hr] at hb
          exact absurd hb.symm h0
        | false =>
          rw [hr] at hb
          have hb : vR ((sk_f ci 0 gs).getD n .null) = b := hb
          rw [List.getD_eq_getElem?_getD, sk_fget] at hb
          unfold gR gV gO
          rw [hw]
          show vR (gs.getD n .null) = b
          rw [List.getD_eq_getElem?_getD]
          cases hv : gs[n]? with
          | none =>
            rw [hv] at hb
            exact hb
          | some v =>
            rw [hv] at hb
            have hb : vR (sk_v ci (0 + n) v) = b := hb
            show vR v = b
            rw [Nat.zero_add] at hb
            cases v with
            | ref c =>
              unfold sk_v at hb
              rw [hr] at hb
              exact hb
            | _ => exact hb
  · exact absurd hb.symm h0
/-- how long an array is, out of the skeleton -/
def sk_l (a : Nat) : Nat := match sk0[a]? with
  | some (.inl (_, .inl xs)) => xs.length
  | _ => 0
theorem SK_len {w : pm_W} (hS : SK w) {a n : Nat} (h : sk_l a = n) (h0 : n ≠ 0) : (gA w a).length = n := by
  unfold sk_l at h
  split at h
  · rename_i t xs e
    rw [← show w.map sk_e = sk0 from hS, List.getElem?_map] at e
    cases hw : w[a]? with
    | none =>
      rw [hw] at e
      cases e
    | some q =>
      rw [hw] at e
      have e : sk_e q = .inl (t, .inl xs) := Option.some.inj e
      cases q with
      | inr q => cases e
      | inl q =>
        obtain ⟨t', q⟩ := q
        rcases q with q | q | q
        · have e : (Sum.inl (t', Sum.inl (List.replicate q.length 0)) : pm_E) = .inl (t, .inl xs) := e
          cases e
          rw [List.length_replicate] at h
          unfold gA
          rw [hw]
          exact h
        · cases e
        · cases e
  · exact absurd h.symm h0
/-! the rules -/
def PS (X : pm_X) (k mi pc : Nat) (ls st : List Value) (w : pm_W) (r : Option Value) (w' : pm_W) : Prop := ∃ d c n, pm pg X pg_tyl pg_cl k d mi pc ls st w = some (r, w', c, n)
theorem ite_t {c a b : Prop} [Decidable c] (hc : c) (h : a) : if c then a else b := by rw [if_pos hc]; exact h
theorem ite_f {c a b : Prop} [Decidable c] (hc : ¬ c) (h : b) : if c then a else b := by rw [if_neg hc]; exact h
section PSR
variable {X : pm_X} {k mi pc : Nat} {ls ls' st : List Value} {w w' : pm_W} {r : Option Value} {i : Instr}
theorem PS_0 (h : PS X 0 mi pc ls st w r w') : False := by
  obtain ⟨d, c, n, h⟩ := h
  cases h
theorem sp_up (h : PS X k mi pc ls st w r w') : PS X (k + 1) mi pc ls st w r w' := by
  obtain ⟨d, c, n, h⟩ := h
  exact ⟨d, c, n, pm_mono1 _ _ _ _ _ _ _ _ h⟩
theorem PS_mono {k' : Nat} (hk : k ≤ k') (h : PS X k mi pc ls st w r w') : PS X k' mi pc ls st w r w' := by
  obtain ⟨d, c, n, h⟩ := h
  exact ⟨d, c, n, pm_mono hk h⟩
theorem sp_inv (hd : pm_dec pg mi pc = some i) (hc : ∀ d, pm_cll pg X mi i d st w = none) (he : pm_end pg mi i st = none) (ho : pm_obi pg mi i st = none) (hm : pm_mk pg mi i st = none) (h : PS X (k + 1) mi pc ls st w r w') : ∃ pc' ls' st' w1, pm_one pg X pg_tyl pg_cl mi i pc ls st w = some (pc', ls', st', w1) ∧ PS X k mi pc' ls' st' w1 r w' := by
  obtain ⟨d, c, n, h⟩ := h
  rw [pm_succ] at h
  unfold pm_body at h
  rw [hd] at h
  simp only at h
  split at h
  · rename_i e
    exact ⟨_, _, _, _, e, d, c, n, h⟩
  · rw [hc d, he, ho, hm] at h
    cases h
/-- the same, at any fuel -/
theorem sp_inv0 (hd : pm_dec pg mi pc = some i) (hc : ∀ d, pm_cll pg X mi i d st w = none) (he : pm_end pg mi i st = none) (ho : pm_obi pg mi i st = none) (hm : pm_mk pg mi i st = none) (h : PS X k mi pc ls st w r w') : ∃ pc' ls' st' w1, pm_one pg X pg_tyl pg_cl mi i pc ls st w = some (pc', ls', st', w1) ∧ PS X k mi pc' ls' st' w1 r w' := by
  cases k with
  | zero => exact (PS_0 h).elim
  | succ k =>
    obtain ⟨a, b, c, d, e, h⟩ := sp_inv hd hc he ho hm h
    exact ⟨a, b, c, d, e, sp_up h⟩
/-- a step that is known, less fuel -/
theorem sp_one {pc' : Nat} {st' : List Value} {w1 : pm_W} (hd : pm_dec pg mi pc = some i) (ho : pm_one pg X pg_tyl pg_cl mi i pc ls st w = some (pc', ls', st', w1)) (h : PS X (k + 1) mi pc ls st w r w') : PS X k mi pc' ls' st' w1 r w' := by
  obtain ⟨d, c, n, h⟩ := h
  rw [pm_succ] at h
  unfold pm_body at h
  rw [hd] at h
  simp only [ho] at h
  exact ⟨d, c, n, h⟩
theorem sp_onk {pc' : Nat} {st' : List Value} {w1 : pm_W} (hd : pm_dec pg mi pc = some i) (ho : pm_one pg X pg_tyl pg_cl mi i pc ls st w = some (pc', ls', st', w1)) (h : PS X k mi pc ls st w r w') : PS X k mi pc' ls' st' w1 r w' := by
  cases k with
  | zero => exact (PS_0 h).elim
  | succ k => exact sp_up (sp_one hd ho h)
theorem sp_iconst {n : Int} {v : Int32} (hd : pm_dec pg mi pc = some (.iconst n)) (hv : Int32.ofInt n = v) (h : PS X k mi pc ls st w r w') : PS X k mi (pc + 1) ls (.int v :: st) w r w' := by
  subst hv
  exact sp_onk hd rfl h
theorem sp_bipush {n : Int} {v : Int32} (hd : pm_dec pg mi pc = some (.bipush n)) (hv : (Int8.ofInt n).toInt32 = v) (h : PS X k mi pc ls st w r w') : PS X k mi (pc + 2) ls (.int v :: st) w r w' := by
  subst hv
  exact sp_onk hd rfl h
theorem sp_sipush {n : Int} {v : Int32} (hd : pm_dec pg mi pc = some (.sipush n)) (hv : (Int16.ofInt n).toInt32 = v) (h : PS X k mi pc ls st w r w') : PS X k mi (pc + 3) ls (.int v :: st) w r w' := by
  subst hv
  exact sp_onk hd rfl h
theorem sp_lconst {n : Fin 2} {v : Int64} (hd : pm_dec pg mi pc = some (.lconst n)) (hv : Int64.ofNat (n : Nat) = v) (h : PS X k mi pc ls st w r w') : PS X k mi (pc + 1) ls (.long v :: st) w r w' := by
  subst hv
  exact sp_onk hd rfl h
theorem sp_ldc {j : Nat} {v : Int32} (hd : pm_dec pg mi pc = some (.ldc j)) (hv : pm_ldc pg mi j = some v) (h : PS X k mi pc ls st w r w') : PS X k mi (pc + 2) ls (.int v :: st) w r w' := sp_onk hd (by simp only [pm_one, hv]) h
theorem sp_ldcS {j q : Nat} (hd : pm_dec pg mi pc = some (.ldc j)) (h0 : pm_ldc pg mi j = none) (hv : pm_lds pg mi j = some q) (h : PS X k mi pc ls st w r w') : PS X k mi (pc + 2) ls (.retAddr q :: st) w r w' := sp_onk hd (by simp only [pm_one, h0, hv]) h
theorem sp_ldc_w {j : Nat} {v : Int32} (hd : pm_dec pg mi pc = some (.ldc_w j)) (hv : pm_ldc pg mi j = some v) (h : PS X k mi pc ls st w r w') : PS X k mi (pc + 3) ls (.int v :: st) w r w' := sp_onk hd (by simp only [pm_one, hv]) h
theorem sp_ldc2 {j : Nat} {v : Int64} (hd : pm_dec pg mi pc = some (.ldc2_w j)) (hv : pm_ld2 pg mi j = some v) (h : PS X k mi pc ls st w r w') : PS X k mi (pc + 3) ls (.long v :: st) w r w' := sp_onk hd (by simp only [pm_one, hv]) h
theorem sp_static {j : Nat} {v : Value} (hd : pm_dec pg mi pc = some (.getstatic j)) (hv : pm_sta pg mi j = some v) (h : PS X k mi pc ls st w r w') : PS X k mi (pc + 3) ls (v :: st) w r w' := sp_onk hd (by simp only [pm_one, hv]) h
theorem sp_istore {j : Nat} {x : Int32} (hd : pm_dec pg mi pc = some (.istore j)) (hj : j < ls.length) (hl : pm_st1 ls j (.int x) = ls') (h : PS X k mi pc ls (.int x :: st) w r w') : PS X k mi (pc + 2) ls' st w r w' := sp_onk hd (by simp only [pm_one, pm_istore, if_pos hj, hl]) h
theorem sp_istore_n {j : Fin 4} {x : Int32} (hd : pm_dec pg mi pc = some (.istore_n j)) (hj : j.val < ls.length) (hl : pm_st1 ls j.val (.int x) = ls') (h : PS X k mi pc ls (.int x :: st) w r w') : PS X k mi (pc + 1) ls' st w r w' := sp_onk hd (by simp only [pm_one, pm_istore, if_pos hj, hl]) h
theorem sp_lstore {j : Nat} {x : Int64} (hd : pm_dec pg mi pc = some (.lstore j)) (hj : j + 1 < ls.length) (hl : pm_st2 ls j (.long x) = ls') (h : PS X k mi pc ls (.long x :: st) w r w') : PS X k mi (pc + 2) ls' st w r w' := sp_onk hd (by simp only [pm_one, pm_lstore, if_pos hj, hl]) h
theorem sp_lstore_n {j : Fin 4} {x : Int64} (hd : pm_dec pg mi pc = some (.lstore_n j)) (hj : j.val + 1 < ls.length) (hl : pm_st2 ls j.val (.long x) = ls') (h : PS X k mi pc ls (.long x :: st) w r w') : PS X k mi (pc + 1) ls' st w r w' := sp_onk hd (by simp only [pm_one, pm_lstore, if_pos hj, hl]) h
theorem sp_iinc {j : Nat} {n : Int} {x v : Int32} (hd : pm_dec pg mi pc = some (.iinc j n)) (hx : ls[j]? = some (.int x)) (hv : Int32.ofInt n = v) (hl : pm_st1 ls j (.int (x + v)) = ls') (h : PS X k mi pc ls st w r w') : PS X k mi (pc + 3) ls' st w r w' := by
  subst hv
  exact sp_onk hd (by simp only [pm_one, hx, hl]) h
theorem sp_astore {j : Nat} {v : Value} (hd : pm_dec pg mi pc = some (.astore j)) (hl : pm_st1 ls j v = ls') (h : PS X k mi pc ls (v :: st) w r w') : ((∃ b, v = .ref b) ∨ v = .null ∨ ∃ b, v = .retAddr b) ∧ PS X k mi (pc + 2) ls' st w r w' := by
  obtain ⟨pc', ls2, st2, w1, e, h⟩ := sp_inv0 hd (fun _ => rfl) rfl rfl rfl h
  simp only [pm_one] at e
  subst hl
  cases v with
  | ref b =>
    simp only [pm_astore] at e
    split at e
    · cases e
      exact ⟨Or.inl ⟨_, rfl⟩, h⟩
    · cases e
  | null =>
    simp only [pm_astore] at e
    split at e
    · cases e
      exact ⟨Or.inr (Or.inl rfl), h⟩
    · cases e
  | retAddr b =>
    simp only [pm_astore] at e
    split at e
    · cases e
      exact ⟨Or.inr (Or.inr ⟨_, rfl⟩), h⟩
    · cases e
  | _ => cases e
theorem sp_astore_n {j : Fin 4} {v : Value} (hd : pm_dec pg mi pc = some (.astore_n j)) (hl : pm_st1 ls j.val v = ls') (h : PS X k mi pc ls (v :: st) w r w') : ((∃ b, v = .ref b) ∨ v = .null ∨ ∃ b, v = .retAddr b) ∧ PS X k mi (pc + 1) ls' st w r w' := by
  obtain ⟨pc', ls2, st2, w1, e, h⟩ := sp_inv0 hd (fun _ => rfl) rfl rfl rfl h
  simp only [pm_one] at e
  subst hl
  cases v with
  | ref b =>
    simp only [pm_astore] at e
    split at e
    · cases e
      exact ⟨Or.inl ⟨_, rfl⟩, h⟩
    · cases e
  | null =>
    simp only [pm_astore] at e
    split at e
    · cases e
      exact ⟨Or.inr (Or.inl rfl), h⟩
    · cases e
  | retAddr b =>
    simp only [pm_astore] at e
    split at e
    · cases e
      exact ⟨Or.inr (Or.inr ⟨_, rfl⟩), h⟩
    · cases e
  | _ => cases e
theorem sp_idiv {x y : Int32} (hd : pm_dec pg mi pc = some .idiv) (h : PS X k mi pc ls (.int y :: .int x :: st) w r w') : PS X k mi (pc + 1) ls (.int (x / y) :: st) w r w' := by
  obtain ⟨pc', ls2, st2, w1, e, h⟩ := sp_inv0 hd (fun _ => rfl) rfl rfl rfl h
  simp only [pm_one, pm_ii] at e
  by_cases hy : y = 0
  · rw [if_pos hy] at e
    cases e
  · rw [if_neg hy] at e
    cases e
    exact h
theorem sp_irem {x y : Int32} (hd : pm_dec pg mi pc = some .irem) (h : PS X k mi pc ls (.int y :: .int x :: st) w r w') : PS X k mi (pc + 1) ls (.int (x - x / y * y) :: st) w r w' := by
  obtain ⟨pc', ls2, st2, w1, e, h⟩ := sp_inv0 hd (fun _ => rfl) rfl rfl rfl h
  simp only [pm_one, pm_ii] at e
  by_cases hy : y = 0
  · rw [if_pos hy] at e
    cases e
  · rw [if_neg hy] at e
    cases e
    exact h
theorem sp_goto {off : Int} {t : Nat} (hd : pm_dec pg mi pc = some (.goto off)) (h0 : 0 ≤ (pc : Int) + off) (ht : ((pc : Int) + off).toNat = t) (h : PS X k mi pc ls st w r w') : PS X k mi t ls st w r w' := sp_onk hd (by simp only [pm_one, pm_jmp, if_pos h0, ht]) h
theorem sp_if_eq {x : Int32} {off : Int} {t : Nat} (hd : pm_dec pg mi pc = some (.ifCond .eq off)) (h0 : 0 ≤ (pc : Int) + off) (ht : ((pc : Int) + off).toNat = t) (h : PS X k mi pc ls (.int x :: st) w r w') : (x = 0 ∧ PS X k mi t ls st w r w') ∨ (¬ (x = 0) ∧ PS X k mi (pc + 3) ls st w r w') := by
  by_cases hc : x = 0
  · exact Or.inl ⟨hc, sp_onk hd (by simp only [pm_one, pm_if1, pm_br, if_pos h0, if_pos hc, ht]) h⟩
  · exact Or.inr ⟨hc, sp_onk hd (by simp only [pm_one, pm_if1, pm_br, if_pos h0, if_neg hc]) h⟩
theorem sp_icmp_eq {x y : Int32} {off : Int} {t : Nat} (hd : pm_dec pg mi pc = some (.if_icmp .eq off)) (h0 : 0 ≤ (pc : Int) + off) (ht : ((pc : Int) + off).toNat = t) (h : PS X k mi pc ls (.int y :: .int x :: st) w r w') : (x = y ∧ PS X k mi t ls st w r w') ∨ (¬ (x = y) ∧ PS X k mi (pc + 3) ls st w r w') := by
  by_cases hc : x = y
  · exact Or.inl ⟨hc, sp_onk hd (by simp only [pm_one, pm_if2, pm_br, if_pos h0, if_pos hc, ht]) h⟩
  · exact Or.inr ⟨hc, sp_onk hd (by simp only [pm_one, pm_if2, pm_br, if_pos h0, if_neg hc]) h⟩
theorem sp_if_ne {x : Int32} {off : Int} {t : Nat} (hd : pm_dec pg mi pc = some (.ifCond .ne off)) (h0 : 0 ≤ (pc : Int) + off) (ht : ((pc : Int) + off).toNat = t) (h : PS X k mi pc ls (.int x :: st) w r w') : (¬ x = 0 ∧ PS X k mi t ls st w r w') ∨ (¬ (¬ x = 0) ∧ PS X k mi (pc + 3) ls st w r w') := by
  by_cases hc : ¬ x = 0
  · exact Or.inl ⟨hc, sp_onk hd (by simp only [pm_one, pm_if1, pm_br, if_pos h0, if_pos hc, ht]) h⟩
  · exact Or.inr ⟨hc, sp_onk hd (by simp only [pm_one, pm_if1, pm_br, if_pos h0, if_neg hc]) h⟩
theorem sp_icmp_ne {x y : Int32} {off : Int} {t : Nat} (hd : pm_dec pg mi pc = some (.if_icmp .ne off)) (h0 : 0 ≤ (pc : Int) + off) (ht : ((pc : Int) + off).toNat = t) (h : PS X k mi pc ls (.int y :: .int x :: st) w r w') : (¬ x = y ∧ PS X k mi t ls st w r w') ∨ (¬ (¬ x = y) ∧ PS X k mi (pc + 3) ls st w r w') := by
  by_cases hc : ¬ x = y
  · exact Or.inl ⟨hc, sp_onk hd (by simp only [pm_one, pm_if2, pm_br, if_pos h0, if_pos hc, ht]) h⟩
  · exact Or.inr ⟨hc, sp_onk hd (by simp only [pm_one, pm_if2, pm_br, if_pos h0, if_neg hc]) h⟩
theorem sp_if_lt {x : Int32} {off : Int} {t : Nat} (hd : pm_dec pg mi pc = some (.ifCond .lt off)) (h0 : 0 ≤ (pc : Int) + off) (ht : ((pc : Int) + off).toNat = t) (h : PS X k mi pc ls (.int x :: st) w r w') : (x < 0 ∧ PS X k mi t ls st w r w') ∨ (¬ (x < 0) ∧ PS X k mi (pc + 3) ls st w r w') := by
  by_cases hc : x < 0
  · exact Or.inl ⟨hc, sp_onk hd (by simp only [pm_one, pm_if1, pm_br, if_pos h0, if_pos hc, ht]) h⟩
  · exact Or.inr ⟨hc, sp_onk hd (by simp only [pm_one, pm_if1, pm_br, if_pos h0, if_neg hc]) h⟩
theorem sp_icmp_lt {x y : Int32} {off : Int} {t : Nat} (hd : pm_dec pg mi pc = some (.if_icmp .lt off)) (h0 : 0 ≤ (pc : Int) + off) (ht : ((pc : Int) + off).toNat = t) (h : PS X k mi pc ls (.int y :: .int x :: st) w r w') : (x < y ∧ PS X k mi t ls st w r w') ∨ (¬ (x < y) ∧ PS X k mi (pc + 3) ls st w r w') := by
  by_cases hc : x < y
  · exact Or.inl ⟨hc, sp_onk hd (by simp only [pm_one, pm_if2, pm_br, if_pos h0, if_pos hc, ht]) h⟩
  · exact Or.inr ⟨hc, sp_onk hd (by simp only [pm_one, pm_if2, pm_br, if_pos h0, if_neg hc]) h⟩
theorem sp_if_ge {x : Int32} {off : Int} {t : Nat} (hd : pm_dec pg mi pc = some (.ifCond .ge off)) (h0 : 0 ≤ (pc : Int) + off) (ht : ((pc : Int) + off).toNat = t) (h : PS X k mi pc ls (.int x :: st) w r w') : (0 ≤ x ∧ PS X k mi t ls st w r w') ∨ (¬ (0 ≤ x) ∧ PS X k mi (pc + 3) ls st w r w') := by
  by_cases hc : 0 ≤ x
  · exact Or.inl ⟨hc, sp_onk hd (by simp only [pm_one, pm_if1, pm_br, if_pos h0, if_pos hc, ht]) h⟩
  · exact Or.inr ⟨hc, sp_onk hd (by simp only [pm_one, pm_if1, pm_br, if_pos h0, if_neg hc]) h⟩
theorem sp_icmp_ge {x y : Int32} {off : Int} {t : Nat} (hd : pm_dec pg mi pc = some (.if_icmp .ge off)) (h0 : 0 ≤ (pc : Int) + off) (ht : ((pc : Int) + off).toNat = t) (h : PS X k mi pc ls (.int y :: .int x :: st) w r w') : (y ≤ x ∧ PS X k mi t ls st w r w') ∨ (¬ (y ≤ x) ∧ PS X k mi (pc + 3) ls st w r w') := by
  by_cases hc : y ≤ x
  · exact Or.inl ⟨hc, sp_onk hd (by simp only [pm_one, pm_if2, pm_br, if_pos h0, if_pos hc, ht]) h⟩
  · exact Or.inr ⟨hc, sp_onk hd (by simp only [pm_one, pm_if2, pm_br, if_pos h0, if_neg hc]) h⟩
theorem sp_if_gt {x : Int32} {off : Int} {t : Nat} (hd : pm_dec pg mi pc = some (.ifCond .gt off)) (h0 : 0 ≤ (pc : Int) + off) (ht : ((pc : Int) + off).toNat = t) (h : PS X k mi pc ls (.int x :: st) w r w') : (0 < x ∧ PS X k mi t ls st w r w') ∨ (¬ (0 < x) ∧ PS X k mi (pc + 3) ls st w r w') := by
  by_cases hc : 0 < x
  · exact Or.inl ⟨hc, sp_onk hd (by simp only [pm_one, pm_if1, pm_br, if_pos h0, if_pos hc, ht]) h⟩
  · exact Or.inr ⟨hc, sp_onk hd (by simp only [pm_one, pm_if1, pm_br, if_pos h0, if_neg hc]) h⟩
theorem sp_icmp_gt {x y : Int32} {off : Int} {t : Nat} (hd : pm_dec pg mi pc = some (.if_icmp .gt off)) (h0 : 0 ≤ (pc : Int) + off) (ht : ((pc : Int) + off).toNat = t) (h : PS X k mi pc ls (.int y :: .int x :: st) w r w') : (y < x ∧ PS X k mi t ls st w r w') ∨ (¬ (y < x) ∧ PS X k mi (pc + 3) ls st w r w') := by
  by_cases hc : y < x
  · exact Or.inl ⟨hc, sp_onk hd (by simp only [pm_one, pm_if2, pm_br, if_pos h0, if_pos hc, ht]) h⟩
  · exact Or.inr ⟨hc, sp_onk hd (by simp only [pm_one, pm_if2, pm_br, if_pos h0, if_neg hc]) h⟩
theorem sp_if_le {x : Int32} {off : Int} {t : Nat} (hd : pm_dec pg mi pc = some (.ifCond .le off)) (h0 : 0 ≤ (pc : Int) + off) (ht : ((pc : Int) + off).toNat = t) (h : PS X k mi pc ls (.int x :: st) w r w') : (x ≤ 0 ∧ PS X k mi t ls st w r w') ∨ (¬ (x ≤ 0) ∧ PS X k mi (pc + 3) ls st w r w') := by
  by_cases hc : x ≤ 0
  · exact Or.inl ⟨hc, sp_onk hd (by simp only [pm_one, pm_if1, pm_br, if_pos h0, if_pos hc, ht]) h⟩
  · exact Or.inr ⟨hc, sp_onk hd (by simp only [pm_one, pm_if1, pm_br, if_pos h0, if_neg hc]) h⟩
theorem sp_icmp_le {x y : Int32} {off : Int} {t : Nat} (hd : pm_dec pg mi pc = some (.if_icmp .le off)) (h0 : 0 ≤ (pc : Int) + off) (ht : ((pc : Int) + off).toNat = t) (h : PS X k mi pc ls (.int y :: .int x :: st) w r w') : (x ≤ y ∧ PS X k mi t ls st w r w') ∨ (¬ (x ≤ y) ∧ PS X k mi (pc + 3) ls st w r w') := by
  by_cases hc : x ≤ y
  · exact Or.inl ⟨hc, sp_onk hd (by simp only [pm_one, pm_if2, pm_br, if_pos h0, if_pos hc, ht]) h⟩
  · exact Or.inr ⟨hc, sp_onk hd (by simp only [pm_one, pm_if2, pm_br, if_pos h0, if_neg hc]) h⟩
theorem vp_iN {x : Int32} {n : Nat} (h : vp_in x n) : iN x n := by
  have z0 : (0 : Int32).toInt = 0 := by decide +kernel
  have q : x.toNatClampNeg = x.toInt.toNat := rfl
  have h1 : ¬ x < 0 := fun a => h (Or.inl a)
  have h2 : ¬ n ≤ x.toNatClampNeg := fun a => h (Or.inr a)
  rw [Int32.lt_iff_toInt_lt, z0] at h1
  unfold iN
  omega
theorem sp_iald {x : Int32} {a : Nat} (hd : pm_dec pg mi pc = some .iaload) (h : PS X k mi pc ls (.int x :: .ref a :: st) w r w') : aI w a x ∧ PS X k mi (pc + 1) ls (.int (aG w a x) :: st) w r w' := by
  obtain ⟨pc', ls2, st2, w1, e, h⟩ := sp_inv0 hd (fun _ => rfl) rfl rfl rfl h
  simp only [pm_one] at e
  obtain ⟨i, st', xs, hi, e1, ⟨b, e2, hw⟩ | ⟨j, q, e2, hw⟩⟩ := pm_iald_of e
  · cases e2
    cases e1
    have eg : gA w a = xs := by unfold gA; rw [hw]
    refine ⟨?_, ?_⟩
    · unfold aI
      rw [eg]
      exact vp_iN hi
    · unfold aG
      rw [eg]
      exact h
  · cases e2
theorem sp_ialdX {x : Int32} {a : Nat} (hd : pm_dec pg mi pc = some .iaload) (h : PS X k mi pc ls (.int x :: .retAddr a :: st) w r w') : iN x (xA X a).length ∧ PS X k mi (pc + 1) ls (.int ((xA X a).getD x.toNatClampNeg 0) :: st) w r w' := by
  obtain ⟨pc', ls2, st2, w1, e, h⟩ := sp_inv0 hd (fun _ => rfl) rfl rfl rfl h
  simp only [pm_one] at e
  obtain ⟨i, st', xs, hi, e1, ⟨b, e2, hw⟩ | ⟨j, q, e2, hw⟩⟩ := pm_iald_of e
  · cases e2
  · cases e2
    cases e1
    have eg : xA X a = xs := by unfold xA; rw [hw]
    rw [eg]
    exact ⟨vp_iN hi, h⟩
theorem sp_bald {x : Int32} {a : Nat} (hd : pm_dec pg mi pc = some .baload) (h : PS X k mi pc ls (.int x :: .ref a :: st) w r w') : aI w a x ∧ PS X k mi (pc + 1) ls (.int (aG w a x) :: st) w r w' := by
  obtain ⟨pc', ls2, st2, w1, e, h⟩ := sp_inv0 hd (fun _ => rfl) rfl rfl rfl h
  simp only [pm_one] at e
  have key : ∀ (Y : pm_X) (t : Nat), pm_iald Y t pc ls (.int x :: .ref a :: st) w = some (pc', ls2, st2, w1) → aI w a x ∧ PS X k mi (pc + 1) ls (.int (aG w a x) :: st) w r w' := by
    intro Y t e
    obtain ⟨i, st', xs, hi, e1, ⟨b, e2, hw⟩ | ⟨j, q, e2, hw⟩⟩ := pm_iald_of e
    · cases e2
      cases e1
      have eg : gA w a = xs := by unfold gA; rw [hw]
      refine ⟨?_, ?_⟩
      · unfold aI
        rw [eg]
        exact vp_iN hi
      · unfold aG
        rw [eg]
        exact h
    · cases e2
  rcases pm_oc_of e with e | e
  · exact key _ _ e
  · exact key _ _ e
theorem sp_baldX {x : Int32} {a : Nat} (hd : pm_dec pg mi pc = some .baload) (h : PS X k mi pc ls (.int x :: .retAddr a :: st) w r w') : iN x (xA X a).length ∧ PS X k mi (pc + 1) ls (.int ((xA X a).getD x.toNatClampNeg 0) :: st) w r w' := by
  obtain ⟨pc', ls2, st2, w1, e, h⟩ := sp_inv0 hd (fun _ => rfl) rfl rfl rfl h
  simp only [pm_one] at e
  rcases pm_oc_of e with e | e
  · obtain ⟨i, st', xs, hi, e1, ⟨b, e2, hw⟩ | ⟨j, q, e2, hw⟩⟩ := pm_iald_of e
    · cases e2
    · cases e2
      cases e1
      have eg : xA X a = xs := by unfold xA; rw [hw]
      rw [eg]
      exact ⟨vp_iN hi, h⟩
  · obtain ⟨i, st', xs, hi, e1, ⟨b, e2, hw⟩ | ⟨j, q, e2, hw⟩⟩ := pm_iald_of e
    · cases e2
    · cases hw
theorem sp_iast {x i : Int32} {a : Nat} (hd : pm_dec pg mi pc = some .iastore) (h : PS X k mi pc ls (.int x :: .int i :: .ref a :: st) w r w') : aI w a i ∧ PS X k mi (pc + 1) ls st (aS w a i x) r w' := by
  obtain ⟨pc', ls2, st2, w1, e, h⟩ := sp_inv0 hd (fun _ => rfl) rfl rfl rfl h
  simp only [pm_one] at e
  obtain ⟨x', i', a', st', xs, e2, hw, hi, e1⟩ := pm_iast_of e
  cases e2
  cases e1
  have eg : gA w a = xs := by unfold gA; rw [hw]
  have es : aS w a i x = w.set a (.inl (0, .inl (xs.set i.toNatClampNeg x))) := by
    unfold aS sA
    rw [hw, eg]
  refine ⟨?_, ?_⟩
  · unfold aI
    rw [eg]
    exact vp_iN hi
  · rw [es]
    exact h
theorem sp_bast {x i : Int32} {a : Nat} (hd : pm_dec pg mi pc = some .bastore) (h : PS X k mi pc ls (.int x :: .int i :: .ref a :: st) w r w') : aI w a i ∧ PS X k mi (pc + 1) ls st (aB w a i x) r w' := by
  obtain ⟨pc', ls2, st2, w1, e, h⟩ := sp_inv0 hd (fun _ => rfl) rfl rfl rfl h
  simp only [pm_one] at e
  rcases pm_oc_of e with e | e
  · obtain ⟨x', i', a', st', xs, e2, hw, hi, e1⟩ := pm_iast_of e
    cases e2
    cases e1
    have eg : gA w a = xs := by unfold gA; rw [hw]
    have et : gT w a = 1 := by unfold gT; rw [hw]
    have es : aB w a i x = w.set a (.inl (1, .inl (xs.set i.toNatClampNeg (vp_nar .byte x)))) := by
      unfold aB aS sA
      rw [hw, eg, et]
      rfl
    refine ⟨?_, ?_⟩
    · unfold aI
      rw [eg]
      exact vp_iN hi
    · rw [es]
      exact h
  · obtain ⟨x', i', a', st', xs, e2, hw, hi, e1⟩ := pm_iast_of e
    cases e2
    cases e1
    have eg : gA w a = xs := by unfold gA; rw [hw]
    have et : gT w a = 2 := by unfold gT; rw [hw]
    have es : aB w a i x = w.set a (.inl (2, .inl (xs.set i.toNatClampNeg (vp_nar .boolean x)))) := by
      unfold aB aS sA
      rw [hw, eg, et]
      rfl
    refine ⟨?_, ?_⟩
    · unfold aI
      rw [eg]
      exact vp_iN hi
    · rw [es]
      exact h
theorem sp_alen {a : Nat} (hd : pm_dec pg mi pc = some .arraylength) (hT : (match sk0[a]? with | some (.inl (_, .inl _)) => true | _ => false) = true) (hS : SK w) (h : PS X k mi pc ls (.ref a :: st) w r w') : PS X k mi (pc + 1) ls (.int (Int32.ofNat (gA w a).length) :: st) w r w' := by
  obtain ⟨pc', ls2, st2, w1, e, h⟩ := sp_inv0 hd (fun _ => rfl) rfl rfl rfl h
  simp only [pm_one] at e
  split at e
  · rename_i t xs hw
    split at e
    · cases e
      have q := SK_at hS hw
      rw [q] at hT
      rcases xs with xs | xs | xs
      · have eg : gA w a = xs := by unfold gA; rw [hw]
        rw [eg]
        exact h
      · cases hT
      · cases hT
    · cases e
  · cases e
/-- how long an array is -/
def gN (w : pm_W) (a : Nat) : Nat := match w[a]? with
  | some (.inl (_, xs)) => pm_len xs
  | _ => 0
theorem sp_alenN {a : Nat} (hd : pm_dec pg mi pc = some .arraylength) (h : PS X k mi pc ls (.ref a :: st) w r w') : PS X k mi (pc + 1) ls (.int (Int32.ofNat (gN w a)) :: st) w r w' := by
  obtain ⟨pc', ls2, st2, w1, e, h⟩ := sp_inv0 hd (fun _ => rfl) rfl rfl rfl h
  simp only [pm_one] at e
  split at e
  · rename_i t xs hw
    split at e
    · cases e
      have eg : gN w a = pm_len xs := by unfold gN; rw [hw]
      rw [eg]
      exact h
    · cases e
  · cases e
theorem sp_alenX {a : Nat} (hd : pm_dec pg mi pc = some .arraylength) (h : PS X k mi pc ls (.retAddr a :: st) w r w') : PS X k mi (pc + 1) ls (.int (Int32.ofNat (xA X a).length) :: st) w r w' := by
  obtain ⟨pc', ls2, st2, w1, e, h⟩ := sp_inv0 hd (fun _ => rfl) rfl rfl rfl h
  simp only [pm_one] at e
  split at e
  · rename_i t xs q hw
    split at e
    · cases e
      have eg : xA X a = xs := by unfold xA; rw [hw]
      rw [eg]
      exact h
    · cases e
  · cases e
theorem sk_some : sk0.all (fun e => match e with | .inl (_, .inr (.inr q)) => q.all Option.isSome | _ => true) = true := by decide +kernel
def qG (w : pm_W) (a : Nat) (i : Int32) : Nat := ((gQ w a).getD i.toNatClampNeg none).getD 0
theorem sp_aald {x : Int32} {a : Nat} (hd : pm_dec pg mi pc = some .aaload) (hS : SK w) (h : PS X k mi pc ls (.int x :: .ref a :: st) w r w') : iN x (gQ w a).length ∧ PS X k mi (pc + 1) ls (.ref (qG w a x) :: st) w r w' := by
  obtain ⟨pc', ls2, st2, w1, e, h⟩ := sp_inv0 hd (fun _ => rfl) rfl rfl rfl h
  simp only [pm_one] at e
  split at e
  · rename_i t xs hw
    split at e
    · split at e
      · rename_i hi
        cases e
        have eg : gQ w a = xs := by unfold gQ; rw [hw]
        have hi := vp_iN (pm_in_ok hi)
        unfold qG
        rw [eg]
        refine ⟨hi, ?_⟩
        have m := List.all_eq_true.mp sk_some _ (List.mem_of_getElem? (SK_at hS hw))
        have m : xs.all Option.isSome = true := m
        have hl : x.toNatClampNeg < xs.length := by
          have q : x.toNatClampNeg = x.toInt.toNat := rfl
          unfold iN at hi
          omega
        have g := List.all_eq_true.mp m _ (List.getElem_mem hl)
        rw [List.getD_eq_getElem?_getD, List.getElem?_eq_getElem hl] at h ⊢
        cases hq : xs[x.toNatClampNeg] with
        | none =>
          rw [hq] at g
          cases g
        | some b =>
          rw [hq] at h
          exact h
      · cases e
    · cases e
  · cases e
theorem sp_get_of {jj a ci n pc' : Nat} {ls2 st2 : List Value} {w1 : pm_W} (hl : pm_get pg mi jj = some (ci, n)) (e : pm_one pg X pg_tyl pg_cl mi (.getfield jj) pc ls (.ref a :: st) w = some (pc', ls2, st2, w1)) : ∃ fs v, w[a]? = some (.inr (ci, fs)) ∧ fs[n]? = some v ∧ pc' = pc + 3 ∧ ls2 = ls ∧ st2 = v :: st ∧ w1 = w := by
  simp only [pm_one, hl] at e
  split at e
  · rename_i c fs hw
    split at e
    · rename_i hc
      split at e
      · rename_i v hv
        cases e
        subst hc
        exact ⟨fs, v, hw, hv, rfl, rfl, rfl, rfl⟩
      · cases e
    · cases e
  · cases e
theorem sp_getI {jj a ci n : Nat} (hd : pm_dec pg mi pc = some (.getfield jj)) (hl : pm_get pg mi jj = some (ci, n)) (hT : sk_ok ci n 1 = true) (hS : SK w) (h : PS X k mi pc ls (.ref a :: st) w r w') : PS X k mi (pc + 3) ls (.int (gI w a n) :: st) w r w' := by
  obtain ⟨pc', ls2, st2, w1, e, h⟩ := sp_inv0 hd (fun _ => rfl) rfl rfl rfl h
  obtain ⟨fs, v, hw, hv, rfl, rfl, rfl, rfl⟩ := sp_get_of hl e
  rw [sk_int hS hw hT] at hv
  cases hv
  exact h
theorem sp_getL {jj a ci n : Nat} (hd : pm_dec pg mi pc = some (.getfield jj)) (hl : pm_get pg mi jj = some (ci, n)) (hT : sk_ok ci n 2 = true) (hS : SK w) (h : PS X k mi pc ls (.ref a :: st) w r w') : PS X k mi (pc + 3) ls (.long (gL w a n) :: st) w r w' := by
  obtain ⟨pc', ls2, st2, w1, e, h⟩ := sp_inv0 hd (fun _ => rfl) rfl rfl rfl h
  obtain ⟨fs, v, hw, hv, rfl, rfl, rfl, rfl⟩ := sp_get_of hl e
  rw [sk_long hS hw hT] at hv
  cases hv
  exact h
theorem sp_getR {jj a ci n : Nat} (hd : pm_dec pg mi pc = some (.getfield jj)) (hl : pm_get pg mi jj = some (ci, n)) (hT : sk_ok ci n 3 = true) (hS : SK w) (h : PS X k mi pc ls (.ref a :: st) w r w') : PS X k mi (pc + 3) ls (.ref (gR w a n) :: st) w r w' := by
  obtain ⟨pc', ls2, st2, w1, e, h⟩ := sp_inv0 hd (fun _ => rfl) rfl rfl rfl h
  obtain ⟨fs, v, hw, hv, rfl, rfl, rfl, rfl⟩ := sp_get_of hl e
  rw [sk_ref hS hw hT] at hv
  cases hv
  exact h
theorem sp_getK {jj a ci n b : Nat} (hd : pm_dec pg mi pc = some (.getfield jj)) (hl : pm_get pg mi jj = some (ci, n)) (hT : sk_ok ci n 3 = true) (hb : sk_r a n = b) (h0 : b ≠ 0) (hS : SK w) (h : PS X k mi pc ls (.ref a :: st) w r w') : PS X k mi (pc + 3) ls (.ref b :: st) w r w' := by
  rw [← sk_fix hS hb h0]
  exact sp_getR hd hl hT hS h
theorem sp_getX {jj a : Nat} {z : Nat} (hd : pm_dec pg mi pc = some (.getfield jj)) (hz : pm_gts pg mi jj = some z) (h : PS X k mi pc ls (.retAddr a :: st) w r w') : PS X k mi (pc + 3) ls ((match z with | 0 => .int 0 | _ => .retAddr (xB X a)) :: st) w r w' := by
  obtain ⟨pc', ls2, st2, w1, e, h⟩ := sp_inv0 hd (fun _ => rfl) rfl rfl rfl h
  simp only [pm_one, hz] at e
  split at e
  · rename_i xs i hw
    have eb : xB X a = i := by unfold xB; rw [hw]
    rw [eb]
    split at e
    · rename_i q
      cases q
      cases e
      exact h
    · rename_i q
      cases q
      cases e
      exact h
    · cases e
  · cases e
theorem sp_put_of {jj a ci n pc' : Nat} {ty : FieldType} {v : Value} {ls2 st2 : List Value} {w1 : pm_W} (hl : pm_put pg mi jj = some (ci, n, ty)) (e : pm_one pg X pg_tyl pg_cl mi (.putfield jj) pc ls (v :: .ref a :: st) w = some (pc', ls2, st2, w1)) : ∃ fs, w[a]? = some (.inr (ci, fs)) ∧ pc' = pc + 3 ∧ ls2 = ls ∧ st2 = st ∧ w1 = w.set a (.inr (ci, fs.set n v)) := by
  simp only [pm_one, hl] at e
  split at e
  · rename_i c fs hw
    split at e
    · rename_i hc
      cases e
      rw [← hc.1]
      exact ⟨fs, hw, rfl, rfl, rfl, rfl⟩
    · cases e
  · cases e
theorem sp_putI {jj a ci n : Nat} {ty : FieldType} {x : Int32} (hd : pm_dec pg mi pc = some (.putfield jj)) (hl : pm_put pg mi jj = some (ci, n, ty)) (hT : sk_ok ci n 1 = true) (hS : SK w) (h : PS X k mi pc ls (.int x :: .ref a :: st) w r w') : PS X k mi (pc + 3) ls st (sI w a n x) r w' := by
  obtain ⟨pc', ls2, st2, w1, e, h⟩ := sp_inv0 hd (fun _ => rfl) rfl rfl rfl h
  obtain ⟨fs, hw, rfl, rfl, rfl, rfl⟩ := sp_put_of hl e
  have ev := gV_of hw (sk_int hS hw hT)
  have es : sI w a n x = w.set a (.inr (ci, fs.set n (.int x))) := by
    unfold sI
    rw [ev]
    show sV w a n (.int x) = _
    unfold sV
    rw [hw]
  rw [es]
  exact h
theorem sp_putL {jj a ci n : Nat} {ty : FieldType} {x : Int64} (hd : pm_dec pg mi pc = some (.putfield jj)) (hl : pm_put pg mi jj = some (ci, n, ty)) (hT : sk_ok ci n 2 = true) (hS : SK w) (h : PS X k mi pc ls (.long x :: .ref a :: st) w r w') : PS X k mi (pc + 3) ls st (sL w a n x) r w' := by
  obtain ⟨pc', ls2, st2, w1, e, h⟩ := sp_inv0 hd (fun _ => rfl) rfl rfl rfl h
  obtain ⟨fs, hw, rfl, rfl, rfl, rfl⟩ := sp_put_of hl e
  have ev := gV_of hw (sk_long hS hw hT)
  have es : sL w a n x = w.set a (.inr (ci, fs.set n (.long x))) := by
    unfold sL
    rw [ev]
    show sV w a n (.long x) = _
    unfold sV
    rw [hw]
  rw [es]
  exact h
theorem sp_putR {jj a ci n b : Nat} {ty : FieldType} (hd : pm_dec pg mi pc = some (.putfield jj)) (hl : pm_put pg mi jj = some (ci, n, ty)) (hT : sk_ok ci n 3 = true) (hr : RFb ci n = true) (hS : SK w) (h : PS X k mi pc ls (.ref b :: .ref a :: st) w r w') : PS X k mi (pc + 3) ls st (sR w a n b) r w' := by
  obtain ⟨pc', ls2, st2, w1, e, h⟩ := sp_inv0 hd (fun _ => rfl) rfl rfl rfl h
  obtain ⟨fs, hw, rfl, rfl, rfl, rfl⟩ := sp_put_of hl e
  have es : sR w a n b = w.set a (.inr (ci, fs.set n (.ref b))) := by
    unfold sR
    rw [hw]
    simp only [hr, cond_true, sk_ref hS hw hT]
  rw [es]
  exact h
theorem sp_nat {j : Nat} (hd : pm_dec pg mi pc = some (.invokestatic j)) (hz : pm_cal pg mi j = none) (h : PS X k mi pc ls st w r w') : ∃ pc' ls' st' w1, pm_one pg X pg_tyl pg_cl mi (.invokestatic j) pc ls st w = some (pc', ls', st', w1) ∧ PS X k mi pc' ls' st' w1 r w' := sp_inv0 hd (fun d => by simp only [pm_cll, hz]) rfl rfl rfl h
theorem sp_max {j : Nat} {x y : Int32} (hd : pm_dec pg mi pc = some (.invokestatic j)) (hz : pm_cal pg mi j = none) (hl : pm_nat pg mi j = some 1) (h : PS X k mi pc ls (.int y :: .int x :: st) w r w') : PS X k mi (pc + 3) ls (.int (if x < y then y else x) :: st) w r w' := by
  obtain ⟨pc', ls2, st2, w1, e, h⟩ := sp_nat hd hz h
  simp only [pm_one, hl] at e
  split at e
  · cases e
    exact h
  · cases e
theorem sp_min {j : Nat} {x y : Int32} (hd : pm_dec pg mi pc = some (.invokestatic j)) (hz : pm_cal pg mi j = none) (hl : pm_nat pg mi j = some 2) (h : PS X k mi pc ls (.int y :: .int x :: st) w r w') : PS X k mi (pc + 3) ls (.int (if y < x then y else x) :: st) w r w' := by
  obtain ⟨pc', ls2, st2, w1, e, h⟩ := sp_nat hd hz h
  simp only [pm_one, hl] at e
  split at e
  · cases e
    exact h
  · cases e
theorem sp_abs {j : Nat} {x : Int32} (hd : pm_dec pg mi pc = some (.invokestatic j)) (hz : pm_cal pg mi j = none) (hl : pm_nat pg mi j = some 3) (h : PS X k mi pc ls (.int x :: st) w r w') : PS X k mi (pc + 3) ls (.int (if 0 ≤ x then x else 0 - x) :: st) w r w' := by
  obtain ⟨pc', ls2, st2, w1, e, h⟩ := sp_nat hd hz h
  simp only [pm_one, hl] at e
  split at e
  · cases e
    exact h
  · cases e
/-- a piece of an array into another: from sp on, to dp on, n of them -/
def cpI (w : pm_W) (a0 a1 : Nat) (sp dp n : Int32) : Prop := 0 ≤ sp.toInt ∧ 0 ≤ dp.toInt ∧ 0 ≤ n.toInt ∧ sp.toInt + n.toInt ≤ (gA w a0).length ∧ dp.toInt + n.toInt ≤ (gA w a1).length
def cpS (w : pm_W) (a0 a1 : Nat) (sp dp n : Int32) : pm_W := sA w a1 (pm_cpy (gA w a0) (gA w a1) sp.toNatClampNeg dp.toNatClampNeg n.toNatClampNeg)
theorem cpy_lenF {xs ys : List Int32} {sp dp n : Nat} (h1 : sp + n ≤ xs.length) (h2 : dp + n ≤ ys.length) : (pm_cpy xs ys sp dp n).length = ys.length := by
  unfold pm_cpy
  rw [List.length_append, List.length_append, List.length_take, List.length_take, List.length_drop, List.length_drop]
  omega
theorem cpS_len {a0 a1 : Nat} {sp dp n : Int32} (hc : cpI w a0 a1 sp dp n) : (pm_cpy (gA w a0) (gA w a1) sp.toNatClampNeg dp.toNatClampNeg n.toNatClampNeg).length = (gA w a1).length := by
  obtain ⟨h1, h2, h3, h4, h5⟩ := hc
  have q1 : sp.toNatClampNeg = sp.toInt.toNat := rfl
  have q2 : dp.toNatClampNeg = dp.toInt.toNat := rfl
  have q3 : n.toNatClampNeg = n.toInt.toNat := rfl
  exact cpy_lenF (by omega) (by omega)
theorem SK_cpS {a0 a1 : Nat} {sp dp n : Int32} (hc : cpI w a0 a1 sp dp n) (hS : SK w) : SK (cpS w a0 a1 sp dp n) := SK_sA (cpS_len hc) hS
theorem sp_copy {j a0 a1 : Nat} {sp dp n : Int32} (hd : pm_dec pg mi pc = some (.invokestatic j)) (hz : pm_cal pg mi j = none) (hl : pm_nat pg mi j = some 0) (h : PS X k mi pc ls (.int n :: .int dp :: .ref a1 :: .int sp :: .ref a0 :: st) w r w') : cpI w a0 a1 sp dp n ∧ PS X k mi (pc + 3) ls st (cpS w a0 a1 sp dp n) r w' := by
  obtain ⟨pc', ls2, st2, w1, e, h⟩ := sp_nat hd hz h
  simp only [pm_one, hl] at e
  obtain ⟨n', dp', sp', a1', a0', st', t, xs, ys, e2, hx, hy, hc, e1⟩ := pm_copy_of e
  cases e2
  cases e1
  have ex : gA w a0 = xs := by unfold gA; rw [hx]
  have ey : gA w a1 = ys := by unfold gA; rw [hy]
  obtain ⟨_, h1, h2, h3, h4, h5, _⟩ := hc
  have z0 : (0 : Int32).toInt = 0 := by decide +kernel
  rw [Int32.lt_iff_toInt_lt, z0] at h1 h2 h3
  have q1 : sp.toNatClampNeg = sp.toInt.toNat := rfl
  have q2 : dp.toNatClampNeg = dp.toInt.toNat := rfl
  have q3 : n.toNatClampNeg = n.toInt.toNat := rfl
  refine ⟨?_, ?_⟩
  · unfold cpI
    rw [ex, ey]
    omega
  · unfold cpS sA
    rw [hy, ex, ey]
    exact h
theorem sp_iret {x : Int32} (hd : pm_dec pg mi pc = some .ireturn) (h : PS X k mi pc ls (.int x :: st) w r w') : r = some (.int x) ∧ w' = w := by
  obtain ⟨d, c, n, h⟩ := h
  cases k with
  | zero => cases h
  | succ k =>
    rw [pm_succ] at h
    unfold pm_body at h
    rw [hd] at h
    simp only [pm_one, pm_cll, pm_end, pm_obi, pm_mk] at h
    split at h
    · rename_i q e
      split at e
      · rename_i z ty e1 e2
        split at e
        · cases e
          cases h
          injection e1 with e3 e4
          cases e3
          exact ⟨rfl, rfl⟩
        · cases e
      · cases e
    · cases h
theorem sp_lret {x : Int64} (hd : pm_dec pg mi pc = some .lreturn) (h : PS X k mi pc ls (.long x :: st) w r w') : r = some (.long x) ∧ w' = w := by
  obtain ⟨d, c, n, h⟩ := h
  cases k with
  | zero => cases h
  | succ k =>
    rw [pm_succ] at h
    unfold pm_body at h
    rw [hd] at h
    simp only [pm_one, pm_cll, pm_end, pm_obi, pm_mk] at h
    split at h
    · rename_i q e
      split at e
      · rename_i z e1 e2
        cases e
        cases h
        injection e1 with e3 e4
        cases e3
        exact ⟨rfl, rfl⟩
      · cases e
    · cases h
theorem sp_vret (hd : pm_dec pg mi pc = some .return_) (h : PS X k mi pc ls st w r w') : r = none ∧ w' = w := by
  obtain ⟨d, c, n, h⟩ := h
  cases k with
  | zero => cases h
  | succ k =>
    rw [pm_succ] at h
    unfold pm_body at h
    rw [hd] at h
    simp only [pm_one, pm_cll, pm_end, pm_obi, pm_mk] at h
    split at h
    · rename_i q e
      split at e
      · cases e
        cases h
        exact ⟨rfl, rfl⟩
      · cases e
    · cases h
theorem sp_aret {v : Value} (hd : pm_dec pg mi pc = some .areturn) (h : PS X k mi pc ls (v :: st) w r w') : r = some v ∧ w' = w := by
  obtain ⟨d, c, n, h⟩ := h
  cases k with
  | zero => cases h
  | succ k =>
    rw [pm_succ] at h
    unfold pm_body at h
    rw [hd] at h
    simp only [pm_one, pm_cll, pm_end, pm_obi, pm_mk] at h
    split at h
    · rename_i q e
      split at e
      · rename_i e1 e2
        cases e
        cases h
        injection e1 with e3 e4
        rw [e3]
        exact ⟨rfl, rfl⟩
      · rename_i e1 e2
        cases e
        cases h
        injection e1 with e3 e4
        rw [e3]
        exact ⟨rfl, rfl⟩
      · rename_i e1 e2
        cases e
        cases h
        injection e1 with e3 e4
        rw [e3]
        exact ⟨rfl, rfl⟩
      · cases e
    · cases h
theorem sp_ifnull {v : Value} {off : Int} {t : Nat} (hd : pm_dec pg mi pc = some (.ifnull off)) (h0 : 0 ≤ (pc : Int) + off) (ht : ((pc : Int) + off).toNat = t) (h : PS X k mi pc ls (v :: st) w r w') : (v = .null ∧ PS X k mi t ls st w r w') ∨ ∃ b, v = .ref b ∧ PS X k mi (pc + 3) ls st w r w' := by
  obtain ⟨pc', ls2, st2, w1, e, h⟩ := sp_inv0 hd (fun _ => rfl) rfl rfl rfl h
  simp only [pm_one] at e
  cases v with
  | null =>
    simp only [pm_jmp, if_pos h0, ht] at e
    cases e
    exact Or.inl ⟨rfl, h⟩
  | ref b =>
    simp only at e
    cases e
    exact Or.inr ⟨b, rfl, h⟩
  | _ => cases e
theorem sp_ifnonnull {v : Value} {off : Int} {t : Nat} (hd : pm_dec pg mi pc = some (.ifnonnull off)) (h0 : 0 ≤ (pc : Int) + off) (ht : ((pc : Int) + off).toNat = t) (h : PS X k mi pc ls (v :: st) w r w') : (v = .null ∧ PS X k mi (pc + 3) ls st w r w') ∨ ∃ b, v = .ref b ∧ PS X k mi t ls st w r w' := by
  obtain ⟨pc', ls2, st2, w1, e, h⟩ := sp_inv0 hd (fun _ => rfl) rfl rfl rfl h
  simp only [pm_one] at e
  cases v with
  | null =>
    simp only at e
    cases e
    exact Or.inl ⟨rfl, h⟩
  | ref b =>
    simp only [pm_jmp, if_pos h0, ht] at e
    cases e
    exact Or.inr ⟨b, rfl, h⟩
  | _ => cases e
theorem sp_ifnullN {off : Int} {t : Nat} (hd : pm_dec pg mi pc = some (.ifnull off)) (h0 : 0 ≤ (pc : Int) + off) (ht : ((pc : Int) + off).toNat = t) (h : PS X k mi pc ls (.null :: st) w r w') : PS X k mi t ls st w r w' := sp_onk hd (by simp only [pm_one, pm_jmp, if_pos h0, ht]) h
theorem sp_ifnonnullR {b : Nat} {off : Int} {t : Nat} (hd : pm_dec pg mi pc = some (.ifnonnull off)) (h0 : 0 ≤ (pc : Int) + off) (ht : ((pc : Int) + off).toNat = t) (h : PS X k mi pc ls (.ref b :: st) w r w') : PS X k mi t ls st w r w' := sp_onk hd (by simp only [pm_one, pm_jmp, if_pos h0, ht]) h
theorem sp_tabIn {x : Int32} {df lo hi off q : Int} {offs : Array Int} {t : Nat} (hd : pm_dec pg mi pc = some (.tableswitch df lo hi offs)) (hx : x.toInt = q) (hn : ¬ (q < lo ∨ hi < q)) (ho : offs[(q - lo).toNat]? = some off) (h0 : 0 ≤ (pc : Int) + off) (ht : ((pc : Int) + off).toNat = t) (h : PS X k mi pc ls (.int x :: st) w r w') : PS X k mi t ls st w r w' := by
  subst hx
  exact sp_onk hd (by simp only [pm_one, if_neg hn, ho, pm_jmp, if_pos h0, ht]) h
theorem sp_tabOut {x : Int32} {df lo hi : Int} {offs : Array Int} {t : Nat} (hd : pm_dec pg mi pc = some (.tableswitch df lo hi offs)) (hn : x.toInt < lo ∨ hi < x.toInt) (h0 : 0 ≤ (pc : Int) + df) (ht : ((pc : Int) + df).toNat = t) (h : PS X k mi pc ls (.int x :: st) w r w') : PS X k mi t ls st w r w' := sp_onk hd (by simp only [pm_one, if_pos hn, pm_jmp, if_pos h0, ht]) h
theorem sp_call {mj : Nat} {vs st' : List Value} (hd : pm_dec pg mi pc = some i) (ho : pm_one pg X pg_tyl pg_cl mi i pc ls st w = none) (hc : ∀ d q, pm_cll pg X mi i d st w = some q → q.1 = mj ∧ q.2.2.1 = vs ∧ q.2.2.2 = st') (he : pm_end pg mi i st = none) (hb : pm_obi pg mi i st = none) (hm : pm_mk pg mi i st = none) (hls : pm_ent (pm_max pg mj) vs = ls') (h : PS X k mi pc ls st w r w') : ∃ r1 w1, PS X k mj 0 ls' [] w r1 w1 ∧ PS X k mi (pc + 3) ls (pm_push r1 st') w1 r w' := by
  obtain ⟨d, c, n, h⟩ := h
  cases k with
  | zero => cases h
  | succ k =>
    rw [pm_succ] at h
    unfold pm_body at h
    rw [hd] at h
    simp only [ho] at h
    split at h
    · rename_i mj1 d1 vs1 st1 e
      obtain ⟨e1, e2, e3⟩ := hc _ _ e
      have e1 : mj1 = mj := e1
      have e2 : vs1 = vs := e2
      have e3 : st1 = st' := e3
      subst e1; subst e2; subst e3; subst hls
      split at h
      · rename_i r1 w1 c1 n1 hr
        obtain ⟨c2, n2, h2, _, _⟩ := pm_add_of h
        exact ⟨r1, w1, ⟨_, _, _, pm_mono1 _ _ _ _ _ _ _ _ hr⟩, ⟨_, _, _, pm_mono1 _ _ _ _ _ _ _ _ h2⟩⟩
      · cases h
    · rw [he, hb, hm] at h
      cases h
theorem cll_inv {jj mj n d : Nat} {v : Value} {args st' : List Value} {q : Nat × Nat × List Value × List Value} (hcal : pm_cal pg mi jj = some (mj, n)) (hst : st = args ++ v :: st') (hn : args.length = n) (e : pm_cll pg X mi (.invokevirtual jj) d st w = some q) : q.1 = mj ∧ q.2.2.1 = v :: args.reverse ∧ q.2.2.2 = st' := by
  subst hst
  subst hn
  have e1 : (args ++ v :: st').drop args.length = v :: st' := by simp
  have e2 : (args ++ v :: st').take args.length = args := by simp
  unfold pm_cll at e
  simp only [hcal, e1, e2] at e
  split at e
  · rename_i d' v' st2 h1 h2
    cases h2
    split at e
    · cases e
      exact ⟨rfl, rfl, rfl⟩
    · cases e
  · cases e
theorem sp_callV {jj mj n : Nat} {v : Value} {args st' : List Value} (hd : pm_dec pg mi pc = some (.invokevirtual jj)) (hcal : pm_cal pg mi jj = some (mj, n)) (hst : st = args ++ v :: st') (hn : args.length = n) (hls : pm_ent (pm_max pg mj) (v :: args.reverse) = ls') (h : PS X k mi pc ls st w r w') : ∃ r1 w1, PS X k mj 0 ls' [] w r1 w1 ∧ PS X k mi (pc + 3) ls (pm_push r1 st') w1 r w' := sp_call hd rfl (fun d q e => cll_inv hcal hst hn e) rfl rfl rfl hls h
theorem clS_inv {jj mj n d : Nat} {args st' : List Value} {q : Nat × Nat × List Value × List Value} (hcal : pm_cal pg mi jj = some (mj, n)) (hst : st = args ++ st') (hn : args.length = n) (e : pm_cll pg X mi (.invokestatic jj) d st w = some q) : q.1 = mj ∧ q.2.2.1 = args.reverse ∧ q.2.2.2 = st' := by
  subst hst
  subst hn
  have e1 : (args ++ st').drop args.length = st' := by simp
  have e2 : (args ++ st').take args.length = args := by simp
  unfold pm_cll at e
  simp only [hcal, e1, e2] at e
  split at e
  · split at e
    · cases e
      exact ⟨rfl, rfl, rfl⟩
    · cases e
  · cases e
theorem sp_callS {jj mj n : Nat} {args st' : List Value} (hd : pm_dec pg mi pc = some (.invokestatic jj)) (hz : pm_nat pg mi jj = none) (hcal : pm_cal pg mi jj = some (mj, n)) (hst : st = args ++ st') (hn : args.length = n) (hls : pm_ent (pm_max pg mj) args.reverse = ls') (h : PS X k mi pc ls st w r w') : ∃ r1 w1, PS X k mj 0 ls' [] w r1 w1 ∧ PS X k mi (pc + 3) ls (pm_push r1 st') w1 r w' := sp_call hd (by simp only [pm_one, hz]) (fun d q e => clS_inv hcal hst hn e) rfl rfl rfl hls h
theorem sp_noS {jj : Nat} (hd : pm_dec pg mi pc = some (.invokestatic jj)) (hz : pm_nat pg mi jj = none) (hcal : pm_cal pg mi jj = none) (h : PS X k mi pc ls st w r w') : False := by
  obtain ⟨a, b, c, d, e, _⟩ := sp_nat hd hcal h
  simp only [pm_one, hz] at e
  cases e
theorem sp_iconst1 {n : Int} {v : Int32} (hd : pm_dec pg mi pc = some (.iconst n)) (hv : Int32.ofInt n = v) (h : PS X (k + 1) mi pc ls st w r w') : PS X k mi (pc + 1) ls (.int v :: st) w r w' := by
  subst hv
  exact sp_one hd rfl h
theorem sp_bipush1 {n : Int} {v : Int32} (hd : pm_dec pg mi pc = some (.bipush n)) (hv : (Int8.ofInt n).toInt32 = v) (h : PS X (k + 1) mi pc ls st w r w') : PS X k mi (pc + 2) ls (.int v :: st) w r w' := by
  subst hv
  exact sp_one hd rfl h
theorem sp_sipush1 {n : Int} {v : Int32} (hd : pm_dec pg mi pc = some (.sipush n)) (hv : (Int16.ofInt n).toInt32 = v) (h : PS X (k + 1) mi pc ls st w r w') : PS X k mi (pc + 3) ls (.int v :: st) w r w' := by
  subst hv
  exact sp_one hd rfl h
theorem sp_lconst1 {n : Fin 2} {v : Int64} (hd : pm_dec pg mi pc = some (.lconst n)) (hv : Int64.ofNat (n : Nat) = v) (h : PS X (k + 1) mi pc ls st w r w') : PS X k mi (pc + 1) ls (.long v :: st) w r w' := by
  subst hv
  exact sp_one hd rfl h
theorem sp_ldc1 {j : Nat} {v : Int32} (hd : pm_dec pg mi pc = some (.ldc j)) (hv : pm_ldc pg mi j = some v) (h : PS X (k + 1) mi pc ls st w r w') : PS X k mi (pc + 2) ls (.int v :: st) w r w' := sp_one hd (by simp only [pm_one, hv]) h
theorem sp_static1 {j : Nat} {v : Value} (hd : pm_dec pg mi pc = some (.getstatic j)) (hv : pm_sta pg mi j = some v) (h : PS X (k + 1) mi pc ls st w r w') : PS X k mi (pc + 3) ls (v :: st) w r w' := sp_one hd (by simp only [pm_one, hv]) h
theorem sp_iinc1 {j : Nat} {n : Int} {x v : Int32} (hd : pm_dec pg mi pc = some (.iinc j n)) (hx : ls[j]? = some (.int x)) (hv : Int32.ofInt n = v) (hl : pm_st1 ls j (.int (x + v)) = ls') (h : PS X (k + 1) mi pc ls st w r w') : PS X k mi (pc + 3) ls' st w r w' := by
  subst hv
  exact sp_one hd (by simp only [pm_one, hx, hl]) h
end PSR
