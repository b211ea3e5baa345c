section
/-! ===== worlds: what a write leaves; frames; how a call's answer is used ===== -/
section FA
variable {w w1 w2 w3 : pm_W} {a b n m i : Nat} {x y : Int32} {xs : List Int32}
/-- an array stands there -/
def isA (w : pm_W) (a : Nat) : Prop := ∃ t ys, w[a]? = some (.inl (t, .inl ys))
def sk_a (a : Nat) : Bool := match sk0[a]? with
  | some (.inl (_, .inl _)) => true
  | _ => false
theorem SK_isA (hS : SK w) (h : sk_a a = true) : isA w a := by
  unfold sk_a at h
  cases hw : w[a]? with
  | none =>
    have e : sk0[a]? = none := by rw [← show w.map sk_e = sk0 from hS, List.getElem?_map, hw]; rfl
    rw [e] at h
    cases h
  | some q =>
    rw [SK_at hS hw] at h
    cases q with
    | inr q => cases h
    | inl q =>
      obtain ⟨t, q⟩ := q
      rcases q with q | q | q
      · exact ⟨t, q, hw⟩
      · cases h
      · cases h
/-! fields -/
def isF (w : pm_W) (a n : Nat) : Prop := ∃ z, gV w a n = .int z
def sk_i (a n : Nat) : Bool := match sk0[a]? with
  | some (.inr (_, fs)) => Nat.beq (sk_k (fs.getD n .null)) 1
  | _ => false
theorem SK_isF (hS : SK w) (h : sk_i a n = true) : isF w a n := by
  unfold sk_i at h
  cases hw : w[a]? with
  | none =>
    have e : sk0[a]? = none := by rw [← show w.map sk_e = sk0 from hS, List.getElem?_map, hw]; rfl
    rw [e] at h
    cases h
  | some q =>
    rw [SK_at hS hw] at h
    cases q with
    | inl q =>
      obtain ⟨t, q⟩ := q
      rcases q with q | q | q <;> cases h
    | inr q =>
      obtain ⟨ci, fs⟩ := q
      have h : Nat.beq (sk_k ((sk_f ci 0 fs).getD n .null)) 1 = true := h
      have h := Nat.eq_of_beq_eq_true h
      rw [List.getD_eq_getElem?_getD, sk_fget] at h
      cases hv : fs[n]? with
      | none =>
        rw [hv] at h
        cases h
      | some v =>
        rw [hv] at h
        have h : sk_k (sk_v ci (0 + n) v) = 1 := h
        rw [sk_vk] at h
        refine ⟨vI v, ?_⟩
        rw [gV_of hw hv]
        cases v <;> first | rfl | cases h
end FA
/-! frames: no field but those of fs, no array but those of as -/
def FM (fs : List (Nat × Nat)) (as : List Nat) (w w' : pm_W) : Prop := (∀ a n, (a, n) ∉ fs → gV w' a n = gV w a n) ∧ (∀ a, a ∉ as → gA w' a = gA w a) ∧ (∀ a, gQ w' a = gQ w a) ∧ SK w'
section FM
variable {fs gs : List (Nat × Nat)} {as bs : List Nat} {w w1 w2 : pm_W} {a n : Nat} {x y : Int32}
end FM
/-! a call's answer, put into what follows -/
section USE
variable {X : pm_X} {k mi : Nat} {ls : List Value} {w : pm_W}
end USE
end
section
/-! ===== tokens: what both sides read ===== -/
def isBl (c : Int32) : Bool := decide (c = 10) || decide (c = 32)
def isLt (c : Int32) : Bool := decide (97 ≤ c.toInt) && decide (c.toInt ≤ 122)
def isDg (c : Int32) : Bool := decide (48 ≤ c.toInt) && decide (c.toInt ≤ 57)
/-- from i on, m at most, as long as P holds -/
def spn (P : Int32 → Bool) (bs : Nat → Int32) : Nat → Nat → Nat
  | 0, i => i
  | m + 1, i => cond (P (bs i)) (spn P bs m (i + 1)) i
def tkS (bs : Nat → Int32) (n i : Nat) : Nat := spn isBl bs (n - i) i
def tkE (P : Int32 → Bool) (bs : Nat → Int32) (n s : Nat) : Nat := spn P bs (n - s) s
/-- a token's kind: 0 the end, 1 letters, 2 a number, 3 a semicolon, 4 none -/
def tkK (bs : Nat → Int32) (n i : Nat) : Nat := if n ≤ tkS bs n i then 0 else if isLt (bs (tkS bs n i)) = true then 1 else if isDg (bs (tkS bs n i)) = true then (if tkE isDg bs n (tkS bs n i) ≤ tkS bs n i + 2 then 2 else 4) else if bs (tkS bs n i) = 59 then 3 else 4
def tkN (bs : Nat → Int32) (n i : Nat) : Nat := if n ≤ tkS bs n i then tkS bs n i else if isLt (bs (tkS bs n i)) = true then tkE isLt bs n (tkS bs n i) else if isDg (bs (tkS bs n i)) = true then tkE isDg bs n (tkS bs n i) else tkS bs n i + 1
/-- the number that t digits from s on make, two at most -/
def dgV (bs : Nat → Int32) (s t : Nat) : Int := if t = 0 then 0 else if t = 1 then (bs s).toInt - 48 else 10 * ((bs s).toInt - 48) + (bs (s + 1)).toInt - 48
def tkV (bs : Nat → Int32) (n i : Nat) : Int := dgV bs (tkS bs n i) (tkE isDg bs n (tkS bs n i) - tkS bs n i)
section FB
variable {X : pm_X} {k : Nat} {w w' : pm_W} {r : Option Value} {p : Int32}
theorem z32 : (0 : Int32).toInt = 0 := by decide +kernel
end FB
end
section
/-! ===== the reference's reader: a token ===== -/
section FD
variable {X : pm_X} {k : Nat} {w w' : pm_W} {r : Option Value} {p p1 p2 p3 : Int32}
def rb (w : pm_W) (i : Nat) : Int32 := (gA w 148).getD (10 + i) 0
def rn (w : pm_W) : Nat := (gI w 147 2).toInt.toNat
/-- a word's code, by the number that its letters make; 99 none -/
def wdK (v : Int) : Int32 := if v = 542622085 then 1 else if v = 769604 then 2 else if v = 1420 then 3 else if v = 6309 then 4 else if v = 599659 then 5 else if v = 20317291 then 6 else if v = 755156 then 7 else if v = 16101 then 11 else if v = 16441 then 12 else if v = 599495 then 13 else if v = 659105125 then 14 else if v = 197932 then 15 else if v = 14137992 then 16 else 99
/-- the number that t letters from s on make, six at most -/
def wdV (bs : Nat → Int32) (s : Nat) : Nat → Int
  | 0 => 0
  | t + 1 => if t < 6 then 32 * wdV bs s t + (bs (s + t)).toInt - 96 else wdV bs s t
/-- the code of the letters from s to e -/
def wdC (bs : Nat → Int32) (s e : Nat) : Int32 := if e ≤ s + 6 then wdK (wdV bs s (e - s)) else 99
/-- what the reference calls a token -/
def rTk (bs : Nat → Int32) (n i : Nat) : Int32 := match tkK bs n i with
  | 0 => 0
  | 1 => if wdC bs (tkS bs n i) (tkN bs n i) = 99 then 4 else 3
  | 2 => 1
  | 3 => 2
  | _ => 4
/-- the bytes are 0 to 255, 600 at most -/
def RB (w : pm_W) : Prop := 0 ≤ (gI w 147 2).toInt ∧ (gI w 147 2).toInt ≤ 600 ∧ ∀ i, i < rn w → 0 ≤ (rb w i).toInt
end FD
end
section
/-! ===== the class's reader: a sentence's numbers ===== -/
section FJ
variable {X : pm_X} {k : Nat} {w0 w w' : pm_W} {r : Option Value} {p p1 p2 p3 : Int32} {bs : Nat → Int32} {n i : Nat}
/-- where the j-th token behind i begins to be looked for -/
def tP (bs : Nat → Int32) (n i : Nat) : Nat → Nat
  | 0 => i
  | j + 1 => tkN bs n (tP bs n i j)
def nv (bs : Nat → Int32) (n i j : Nat) : Int := tkV bs n (tP bs n i (j + 1))
def pl (bs : Nat → Int32) (n i : Nat) : Int32 := Int32.ofNat (tkS bs n i)
def dueN (v : Nat) : Nat := ((xA pg_arr 1).getD v 0).toInt.toNat
end FJ
end
section
/-! ===== the class's reader: what a sentence leaves ===== -/
section FZ
variable {X : pm_X} {k : Nat} {w0 w w' : pm_W} {r : Option Value} {p p1 p2 p3 : Int32} {a b v : Nat}
/-- a village's cells, as the reference numbers them -/
def vcl (w : pm_W) (v k : Nat) : Int32 := if k = 0 then gI w v 0 else if k = 1 then gI w v 2 else if k = 2 then gI w v 1 else if k < 84 then (gA w (gR w v 3)).getD (k - 3) 0 else if k < 93 then (gA w (gR w v 4)).getD (k - 84) 0 else if k < 102 then (gA w (gR w v 5)).getD (k - 93) 0 else if k < 130 then (gA w (gR w v 6)).getD (k - 102) 0 else 0
def updc (c : Nat → Int32) (k : Nat) (x : Int32) : Nat → Int32 := fun j => if j = k then x else c j
end FZ
end
section
/-! ===== the class's reader: a sentence ===== -/
section FK
variable {X : pm_X} {k : Nat} {w0 w w' : pm_W} {r : Option Value} {p p1 p2 p3 : Int32} {bs : Nat → Int32} {n i : Nat}
/-- where the form breaks: behind m numbers -/
def FI (bs : Nat → Int32) (n i v m : Nat) : Prop := (∀ t, t < m → tkK bs n (tP bs n i (t + 1)) = 2) ∧ (v ≠ 2 → m ≤ dueN v ∧ (m = dueN v → tkK bs n (tP bs n i (m + 1)) ≠ 3) ∧ (m < dueN v → tkK bs n (tP bs n i (m + 1)) ≠ 2)) ∧ (v = 2 → tkK bs n (tP bs n i (m + 1)) ≠ 2 ∧ (4 ≤ m → tkK bs n (tP bs n i (m + 1)) ≠ 3))
end FK
end
section
/-! ===== the reference's reader: numbers, faults ===== -/
section FL
variable {X : pm_X} {k : Nat} {w0 w w' : pm_W} {r : Option Value} {p p1 p2 p3 : Int32} {bs : Nat → Int32} {n i : Nat}
def qF (w : pm_W) : Int32 := (gA w 148).getD 3 0
def qP (w : pm_W) : Int32 := (gA w 148).getD 4 0
/-- the current token of the reference is the one from i on -/
def RTk (w : pm_W) (bs : Nat → Int32) (n i : Nat) : Prop := gI w 147 5 = rTk bs n i ∧ (gI w 147 4).toInt = (tkS bs n i : Nat) ∧ (gI w 147 3).toInt = (tkN bs n i : Nat) ∧ (tkK bs n i = 2 → (gI w 147 6).toInt = tkV bs n i) ∧ (tkK bs n i = 1 → gI w 147 7 = wdC bs (tkS bs n i) (tkN bs n i))
end FL
end
section
section FMM
variable {X : pm_X} {k : Nat} {w0 w w' : pm_W} {r : Option Value} {p p1 p2 p3 : Int32} {bs : Nat → Int32} {n i : Nat}
/-- the reference reads: its token is that from i on, no form broken, the fault f at p, which lies before the token (or is a 2 at it) -/
def RS (w : pm_W) (bs : Nat → Int32) (n i : Nat) (f p : Int32) : Prop := SK w ∧ gI w 147 8 = 0 ∧ RTk w bs n i ∧ rb w = bs ∧ rn w = n ∧ RB w ∧ qF w = f ∧ qP w = p ∧ (f ≠ 0 → p.toInt < tkS bs n i ∨ (p = pl bs n i ∧ f = 2)) ∧ i ≤ n
end FMM
end
section
/-! ===== the reference's lines ===== -/
section FP
variable {X : pm_X} {k : Nat} {w0 w w' : pm_W} {r : Option Value} {p p1 p2 p3 f0 p0 : Int32} {bs : Nat → Int32} {n i v j : Nat}
def ns32 (bs : Nat → Int32) (n i : Nat) (t : Nat) : Int32 := Int32.ofInt (nv bs n i t)
end FP
end
section
/-! ===== the reference's row line ===== -/
section FV
variable {X : pm_X} {k : Nat} {w0 w w' : pm_W} {r : Option Value} {p p1 p2 p3 f0 p0 f : Int32} {bs : Nat → Int32} {n i v j : Nat}
/-- as RS, the fault aside -/
def R0 (w : pm_W) (bs : Nat → Int32) (n i : Nat) : Prop := SK w ∧ gI w 147 8 = 0 ∧ RTk w bs n i ∧ rb w = bs ∧ rn w = n ∧ RB w ∧ i ≤ n
end FV
end
section
section FX
variable {X : pm_X} {k : Nat} {w0 w wE w' : pm_W} {r : Option Value} {p p1 p2 p3 f0 p0 f : Int32} {bs : Nat → Int32} {n i v j m : Nat}
/-- eight numbers, told or none -/
def e8 (bs : Nat → Int32) (n i m t : Nat) : Int32 := if t < m then ns32 bs n i t else -1
end FX
end
section
/-! ===== the class reads a tape ===== -/
section GHR
variable {w w1 w2 w3 : pm_W} {a b n m i : Nat} {x y : Int32}
/-- a field whose reference changes -/
def sk_rf (a n : Nat) : Bool := match sk0[a]? with
  | some (.inr (ci, fs)) => RFb ci n && Nat.beq (sk_k (fs.getD n .null)) 3
  | _ => false
end GHR
section GH
variable {X : pm_X} {k : Nat} {w0 w w' : pm_W} {r : Option Value} {p p1 p2 p3 f0 p0 f q : Int32} {bs : Nat → Int32} {n i v j m : Nat} {b : Bool} {c : Nat → Int32} {g : Int}
end GH
end
section
/-! ===== the class reads a tape: from its start ===== -/
section GI
variable {X : pm_X} {k : Nat} {w0 w w' : pm_W} {r : Option Value} {p p1 p2 p3 f0 p0 f q : Int32} {bs : Nat → Int32} {n i v j m : Nat} {b : Bool} {c : Nat → Int32} {g : Int}
/-- the cells at first -/
def i0 (b : Bool) : Nat → Int32 := cond b (fun k => if k = 0 then 4 else 0) (fun _ => 0)
/-- the tape -/
def tb (w : pm_W) (i : Nat) : Int32 := (gA w 4).getD i 0
end GI
end
section
/-! ===== the reference's text ===== -/
section GL
variable {X : pm_X} {k : Nat} {w0 w w1 w' : pm_W} {r : Option Value} {p p1 p2 p3 f0 p0 f q : Int32} {bs cs : Nat → Int32} {n i v j m : Nat} {b : Bool} {c : Nat → Int32} {g : Int}
/-- all, by cell -/
def al (w : pm_W) (q : Nat) : Int32 := (gA w 148).getD q 0
end GL
end
section
/-! ===== villages, rows copied; what a text is kept as (the class) ===== -/
section GN
variable {X : pm_X} {k : Nat} {w0 w w1 w' : pm_W} {r : Option Value} {p p1 p2 p3 f0 p0 f q : Int32} {bs cs : Nat → Int32} {n i v j m a s T : Nat} {b : Bool} {c : Nat → Int32} {g : Int}
/-- a village stands at v, its arrays behind it -/
def okV (v : Nat) : Bool := Nat.beq (sk_r v 3) (v + 1) && Nat.beq (sk_r v 4) (v + 2) && Nat.beq (sk_r v 5) (v + 3) && Nat.beq (sk_r v 6) (v + 4) && sk_i v 0 && sk_i v 1 && sk_i v 2 && sk_a (v + 1) && sk_a (v + 2) && sk_a (v + 3) && sk_a (v + 4) && Nat.beq (sk_l (v + 1)) 81 && Nat.beq (sk_l (v + 2)) 9 && Nat.beq (sk_l (v + 3)) 9 && Nat.beq (sk_l (v + 4)) 28
theorem okV_r (hS : SK w) (h : okV v = true) : gR w v 3 = v + 1 ∧ gR w v 4 = v + 2 ∧ gR w v 5 = v + 3 ∧ gR w v 6 = v + 4 ∧ isF w v 0 ∧ isF w v 1 ∧ isF w v 2 ∧ isA w (v + 1) ∧ isA w (v + 2) ∧ isA w (v + 3) ∧ isA w (v + 4) ∧ (gA w (v + 1)).length = 81 ∧ (gA w (v + 2)).length = 9 ∧ (gA w (v + 3)).length = 9 ∧ (gA w (v + 4)).length = 28 := by
  unfold okV at h
  simp only [Bool.and_eq_true] at h
  obtain ⟨⟨⟨⟨⟨⟨⟨⟨⟨⟨⟨⟨⟨⟨h1, h2⟩, h3⟩, h4⟩, h5⟩, h6⟩, h7⟩, h8⟩, h9⟩, h10⟩, h11⟩, h12⟩, h13⟩, h14⟩, h15⟩ := h
  exact ⟨sk_fix hS (Nat.eq_of_beq_eq_true h1) (by omega), sk_fix hS (Nat.eq_of_beq_eq_true h2) (by omega), sk_fix hS (Nat.eq_of_beq_eq_true h3) (by omega), sk_fix hS (Nat.eq_of_beq_eq_true h4) (by omega), SK_isF hS h5, SK_isF hS h6, SK_isF hS h7, SK_isA hS h8, SK_isA hS h9, SK_isA hS h10, SK_isA hS h11, SK_len hS (Nat.eq_of_beq_eq_true h12) (by decide), SK_len hS (Nat.eq_of_beq_eq_true h13) (by decide), SK_len hS (Nat.eq_of_beq_eq_true h14) (by decide), SK_len hS (Nat.eq_of_beq_eq_true h15) (by decide)⟩
theorem vcl_ok (hS : SK w) (h : okV v = true) (k : Nat) : vcl w v k = if k = 0 then gI w v 0 else if k = 1 then gI w v 2 else if k = 2 then gI w v 1 else if k < 84 then (gA w (v + 1)).getD (k - 3) 0 else if k < 93 then (gA w (v + 2)).getD (k - 84) 0 else if k < 102 then (gA w (v + 3)).getD (k - 93) 0 else if k < 130 then (gA w (v + 4)).getD (k - 102) 0 else 0 := by
  obtain ⟨h1, h2, h3, h4, _⟩ := okV_r hS h
  unfold vcl
  rw [h1, h2, h3, h4]
/-- a row stands at v -/
def okR (v : Nat) : Bool := Nat.beq (sk_r v 1) (v + 1) && sk_i v 0 && sk_a (v + 1) && Nat.beq (sk_l (v + 1)) 270
end GN
end
section
/-! ===== what is told, on both sides; text keeps it, and answers alike ===== -/
section GP
variable {X : pm_X} {k k2 : Nat} {w0 w w1 w2 w' : pm_W} {r r2 : Option Value} {p p1 p2 p3 f0 p0 f q : Int32} {bs cs : Nat → Int32} {n i v j m a s T : Nat} {b : Bool} {c : Nat → Int32} {g : Int}
def BY (x y : Int32) : Prop := -128 ≤ x.toInt ∧ x.toInt ≤ 127 ∧ y.toInt = if x.toInt < 0 then x.toInt + 256 else x.toInt
/-- the ranges of what is told -/
def RA (a : Nat → Int32) : Prop := 0 ≤ (a 0).toInt ∧ (a 0).toInt ≤ 2 ∧ 0 ≤ (a 1).toInt ∧ (a 1).toInt ≤ 3 ∧ 0 ≤ (a 2).toInt ∧ (a 2).toInt ≤ 600 ∧ ∀ u, u < (a 1).toInt.toNat → 0 ≤ (a (874 + 272 * u)).toInt ∧ (a (874 + 272 * u)).toInt ≤ 30
/-- the class's told object at T has the cells a -/
def TE (w : pm_W) (T : Nat) (a : Nat → Int32) : Prop := RA a ∧ gI w T 2 = a 0 ∧ gI w T 3 = a 1 ∧ gI w T 5 = a 2 ∧ gI w T 6 = a 3 ∧ gI w T 7 = a 4 ∧ (∀ j, j < (a 2).toInt.toNat → BY ((gA w (T + 3)).getD j 0) (a (10 + j))) ∧ (∀ u, u < (a 0).toInt.toNat → ∀ k, k < 130 → vcl w (T + 4 + 5 * u) k = a (610 + 132 * u + k)) ∧ (∀ u, u < (a 1).toInt.toNat → gI w (T + 14 + 2 * u) 0 = a (874 + 272 * u) ∧ ∀ q, q < 9 * (a (874 + 272 * u)).toInt.toNat → (gA w (T + 15 + 2 * u)).getD q 0 = a (874 + 272 * u + 1 + q))
end GP
end
section
/-! ===== feed and end ===== -/
section GS
variable {X : pm_X} {k k2 : Nat} {w0 w w1 w2 w' : pm_W} {r r2 : Option Value} {p p1 p2 p3 p4 p5 f0 p0 f q x : Int32} {n i v j m a s T L : Nat}
def n5 (p1 p2 p3 p4 p5 : Int32) (t : Nat) : Int32 := if t < 4 then p1 else if t < 8 then p2 else if t < 12 then p3 else if t < 16 then p4 else p5
end GS
end
section
/-! ===== image and again ===== -/
section GTI
variable {X : pm_X} {k k2 : Nat} {w0 w w1 w2 w' : pm_W} {r r2 : Option Value} {p p1 p2 p3 p4 p5 f0 p0 f q x : Int32} {n i v j m s T L : Nat} {a : Nat → Int32}
def tFs (T : Nat) : List (Nat × Nat) := [(T, 2), (T, 3), (T, 5), (T, 6), (T, 7), (T + 4, 0), (T + 4, 1), (T + 4, 2), (T + 9, 0), (T + 9, 1), (T + 9, 2), (T + 14, 0), (T + 16, 0), (T + 18, 0)]
def tAs (T : Nat) : List Nat := [T + 3, T + 5, T + 6, T + 7, T + 8, T + 10, T + 11, T + 12, T + 13, T + 15, T + 17, T + 19]
def IM (w : pm_W) : Prop := ∀ k, k < 3 → (gA w 22).getD k 0 = (gA w 149).getD k 0 ∧ ((gA w 149).getD k 0 ≠ 0 → TE w (87 + 20 * k) (fun q => al w (1690 * (k + 1) + q)))
/-- what is told, and the images, are alike on both sides -/
def RL2 (w : pm_W) : Prop := SK w ∧ TE w 1 (al w) ∧ IM w
theorem okI {κ : Nat} (h : κ < 3) : okV (87 + 20 * κ + 4) = true ∧ okV (87 + 20 * κ + 9) = true := by
  have c : κ = 0 ∨ κ = 1 ∨ κ = 2 := by omega
  rcases c with rfl | rfl | rfl <;> decide +kernel
end GTI
end
section
/-! ===== what is told, asked: fault, village, word, want, act, count ===== -/
section GU
variable {X : pm_X} {k k2 : Nat} {w0 w w1 w2 w' : pm_W} {r r2 : Option Value} {p p1 p2 p3 p4 p5 f0 p0 f q x : Int32} {n i v j m s T L u V : Nat} {a : Nat → Int32}
/-- the ranges of what is told now -/
def MTn (w : pm_W) : Prop := ∀ i, i < 1690 → MT i (al w i).toInt
end GU
end
section
/-! ===== what is told is valid ===== -/
section GVL
variable {X : pm_X} {k k2 : Nat} {w0 w w1 w2 w' : pm_W} {r r2 : Option Value} {p p1 p2 p3 f0 p0 f q x : Int32} {bs : Nat → Int32} {n i v j m s T L u V : Nat} {b : Bool} {c : Nat → Int32} {g : Int} {a : Nat → Int32}
/-- a village's cells are valid; those who want are g at most -/
def VLv (c : Nat → Int32) (g : Int) : Prop := (2 ≤ (c 0).toInt ∧ (c 0).toInt ≤ 9) ∧ (0 ≤ (c 1).toInt ∧ (c 1).toInt ≤ 7) ∧ (0 ≤ (c 2).toInt ∧ (c 2).toInt ≤ 9) ∧ (∀ q, q < 81 → 0 ≤ (c (3 + q)).toInt ∧ (c (3 + q)).toInt ≤ 99) ∧ (∀ q, q < 9 → 0 ≤ (c (84 + q)).toInt ∧ (c (84 + q)).toInt ≤ 99) ∧ (∀ q, q < 9 → 0 ≤ (c (93 + q)).toInt ∧ (c (93 + q)).toInt ≤ 100) ∧ (∀ k, k < (c 1).toInt.toNat → 0 ≤ (c (102 + 4 * k)).toInt ∧ (c (102 + 4 * k)).toInt ≤ g ∧ 0 ≤ (c (103 + 4 * k)).toInt ∧ (c (103 + 4 * k)).toInt ≤ g ∧ (c (102 + 4 * k)).toInt ≠ (c (103 + 4 * k)).toInt ∧ 1 ≤ (c (104 + 4 * k)).toInt ∧ (c (104 + 4 * k)).toInt ≤ 99 ∧ 0 ≤ (c (105 + 4 * k)).toInt ∧ (c (105 + 4 * k)).toInt ≤ 99)
/-- an act's cells are valid -/
def VAc (y : Nat → Int32) : Prop := ((y 0 = 0 ∨ y 0 = 1) ∧ 0 ≤ (y 1).toInt ∧ (y 1).toInt ≤ 8 ∧ 0 ≤ (y 2).toInt ∧ (y 2).toInt ≤ 8 ∧ (y 1).toInt ≠ (y 2).toInt ∧ 1 ≤ (y 3).toInt ∧ (y 3).toInt ≤ 99) ∨ (y 0 = 2 ∧ 1 ≤ (y 1).toInt ∧ (y 1).toInt ≤ 99 ∧ 0 ≤ (y 2).toInt ∧ (y 2).toInt ≤ 99 ∧ ∃ m, 2 ≤ m ∧ m ≤ 6 ∧ (∀ t, t < m → 0 ≤ (y (3 + t)).toInt ∧ (y (3 + t)).toInt ≤ 8) ∧ (∀ t s, t < s → s < m → (y (3 + t)).toInt ≠ (y (3 + s)).toInt) ∧ ∀ t, m ≤ t → t < 6 → y (3 + t) = -1) ∨ (y 0 = 3 ∧ 0 ≤ (y 1).toInt ∧ (y 1).toInt ≤ 29) ∨ (y 0 = 4 ∧ 0 ≤ (y 1).toInt ∧ (y 1).toInt ≤ 8) ∨ y 0 = 5
def VLr (c : Nat → Int32) : Prop := ∀ i, i < (c 0).toInt.toNat → VAc (fun t => c (1 + 9 * i + t))
/-- all that is told is valid -/
def VAa (a : Nat → Int32) : Prop := (∀ u, u < (a 0).toInt.toNat → ∃ g : Int, g < (a (610 + 132 * u)).toInt ∧ VLv (fun k => a (610 + 132 * u + k)) g) ∧ ∀ u, u < (a 1).toInt.toNat → VLr (fun k => a (874 + 272 * u + k))
end GVL
end
section
/-! ===== states: what acts do, for both sides; the class's states ===== -/
section GW
variable {X : pm_X} {k k2 : Nat} {w0 w w1 w2 w' : pm_W} {r r2 : Option Value} {p p1 p2 p3 p4 p5 f0 p0 f q x y : Int32} {n i v j m s T L u V a N K P t : Nat} {D D' G G1 G2 : Nat → Int32} {b : Bool}
/-- of ring k: how many, who is in it, the cell of the debt of its i-th -/
def rMy (G : Nat → Int32) (k : Nat) : Nat := (G (10 * k)).toInt.toNat
def rWho (G : Nat → Int32) (k i : Nat) : Nat := (G (10 * k + 4 + i)).toInt.toNat
def rNx (G : Nat → Int32) (k i : Nat) : Nat := rWho G k (if i + 1 < rMy G k then i + 1 else 0)
def rCl (G : Nat → Int32) (k i : Nat) : Nat := 9 * rWho G k i + rNx G k i
def subZ (x n : Int32) : Int32 := if x.toInt < n.toInt then 0 else x - n
/-- the debts behind the first i of ring k's are struck -/
def stD (G : Nat → Int32) (k : Nat) : Nat → (Nat → Int32) → (Nat → Int32)
  | 0, D => D
  | i + 1, D => updc (stD G k i D) (rCl G k i) (subZ (stD G k i D (rCl G k i)) (G (10 * k + 1)))
def stG (G : Nat → Int32) (k : Nat) : Nat → Int32 := updc G (10 * k + 3) 0
def opn (G : Nat → Int32) (k : Nat) : Bool := decide (G (10 * k + 3) = 1)
def inR (G : Nat → Int32) (k : Nat) (p : Nat) : Nat → Bool
  | 0 => false
  | i + 1 => inR G k p i || decide (rWho G k i = p)
/-! the class's states -/
def okS (a : Nat) : Bool := Nat.beq (sk_r a 3) (a + 6) && Nat.beq (sk_r a 4) (a + 7) && Nat.beq (sk_r a 5) (a + 8) && sk_i a 1 && sk_i a 2 && sk_a (a + 6) && sk_a (a + 7) && sk_a (a + 8) && Nat.beq (sk_l (a + 6)) 81 && Nat.beq (sk_l (a + 7)) 370 && Nat.beq (sk_l (a + 8)) 6 && sk_rf a 0
end GW
end
section
/-! ===== rings struck one by one: who fails, months ===== -/
section GY
variable {X : pm_X} {k k2 : Nat} {w0 w w1 w2 w' : pm_W} {r r2 : Option Value} {p p1 p2 p3 p4 p5 f0 p0 f q x y M : Int32} {n i v j m T L u V a N K P t : Nat} {D D' G G1 G2 : Nat → Int32} {b : Bool}
def strk (k : Nat) (s : (Nat → Int32) × (Nat → Int32)) : (Nat → Int32) × (Nat → Int32) := (stD s.2 k (rMy s.2 k) s.1, stG s.2 k)
def flS (c : (Nat → Int32) → Nat → Bool) : Nat → (Nat → Int32) × (Nat → Int32) → (Nat → Int32) × (Nat → Int32)
  | 0, s => s
  | k + 1, s => cond (c (flS c k s).2 k) (strk k (flS c k s)) (flS c k s)
def cF (p : Nat) (G : Nat → Int32) (k : Nat) : Bool := opn G k && inR G k p (rMy G k)
def cM (M : Int32) (G : Nat → Int32) (k : Nat) : Bool := opn G k && decide ((G (10 * k + 2)).toInt < M.toInt)
/-- all that one owes or is owed, to the first n -/
def zrL (p : Nat) : Nat → (Nat → Int32) → (Nat → Int32)
  | 0, D => D
  | o + 1, D => updc (updc (zrL p o D) (9 * p + o) 0) (9 * o + p) 0
/-! the class -/
/-! the reference -/
end GY
end
section
/-! ===== acts: what each does to a state (for both sides); room, owe, pay ===== -/
section GZ
variable {X : pm_X} {k k2 : Nat} {w0 w w1 w2 w' : pm_W} {r r2 : Option Value} {p p1 p2 p3 p4 p5 f0 p0 f q x y M nn : Int32} {n i v j m T L u a N K P t s : Nat} {D D' G G1 G2 V E : Nat → Int32} {b : Bool}
/-- the room of x to y -/
def rmI (V D : Nat → Int32) (x y : Nat) : Int32 := if x = y then 0 else if 0 < (V (3 + (9 * y + x)) - D (9 * x + y)).toInt then V (3 + (9 * y + x)) - D (9 * x + y) else 0
/-- of an act: who is in its ring, the debts' cells -/
def eWho (E : Nat → Int32) (i : Nat) : Nat := (E (3 + i)).toInt.toNat
def eNx (E : Nat → Int32) (m i : Nat) : Nat := eWho E (if i + 1 < m then i + 1 else 0)
def eCl (E : Nat → Int32) (m i : Nat) : Nat := 9 * eWho E i + eNx E m i
def adD (E : Nat → Int32) (m : Nat) (n : Int32) : Nat → (Nat → Int32) → (Nat → Int32)
  | 0, D => D
  | i + 1, D => updc (adD E m n i D) (eCl E m i) (adD E m n i D (eCl E m i) + n)
/-- the act's ring: m in it, each with room -/
def ERg (E : Nat → Int32) (m : Nat) : Prop := 2 ≤ m ∧ m ≤ 6 ∧ (∀ t, t < m → 0 ≤ (E (3 + t)).toInt ∧ (E (3 + t)).toInt ≤ 8) ∧ (∀ t s, t < s → s < m → (E (3 + t)).toInt ≠ (E (3 + s)).toInt) ∧ ∀ t, m ≤ t → t < 6 → E (3 + t) = -1
def fitO (P : Nat) (V D E : Nat → Int32) (m : Nat) (n : Int32) (i : Nat) : Prop := eWho E i < P ∧ eNx E m i < P ∧ n.toInt ≤ (rmI V D (eWho E i) (eNx E m i)).toInt
def fitS (P : Nat) (V D E : Nat → Int32) (m : Nat) (n : Int32) : Prop := ∀ i, i < m → fitO P V D E m n i
end GZ
end
section
/-! ===== rings begun ===== -/
section HA
variable {X : pm_X} {k k2 : Nat} {w0 w w1 w2 w' : pm_W} {r r2 : Option Value} {p p1 p2 p3 p4 p5 f0 p0 f q x y M nn : Int32} {n i v j m T L u a c N K P t s : Nat} {D D' G G1 G2 V E : Nat → Int32} {b : Bool}
def rg4 (N : Nat) (m nn till : Int32) (G : Nat → Int32) : Nat → Int32 := updc (updc (updc (updc G (10 * N) m) (10 * N + 1) nn) (10 * N + 2) till) (10 * N + 3) 1
def rgW (E : Nat → Int32) (N : Nat) : Nat → (Nat → Int32) → (Nat → Int32)
  | 0, G => G
  | i + 1, G => updc (rgW E N i G) (10 * N + 4 + i) (E (3 + i))
end HA
end
section
/-! ===== an act played (the class) ===== -/
section HB
variable {X : pm_X} {k k2 : Nat} {w0 w w1 w2 w' : pm_W} {r r2 : Option Value} {p p1 p2 p3 p4 p5 f0 p0 f q x y M nn : Int32} {n i v j m T L u a c N K P t s b : Nat} {D D' G G1 G2 V E : Nat → Int32}
/-- what an act does: none, or the debts, rings' parts, month, how many rings -/
def AO : Type := Option ((Nat → Int32) × (Nat → Int32) × Int32 × Nat)
/-- an act E, played in a state: o the outcome -/
def ACT (P : Nat) (V E D G : Nat → Int32) (M : Int32) (N : Nat) (o : AO) : Prop := (E 0 = 0 ∧ ∃ x y : Nat, (E 1).toInt = x ∧ (E 2).toInt = y ∧ ((x < P ∧ y < P ∧ (E 3).toInt ≤ (rmI V D x y).toInt ∧ o = some (updc D (9 * x + y) (D (9 * x + y) + E 3), G, M, N)) ∨ (¬ (x < P ∧ y < P ∧ (E 3).toInt ≤ (rmI V D x y).toInt) ∧ o = none))) ∨ (E 0 = 1 ∧ ∃ x y : Nat, (E 1).toInt = x ∧ (E 2).toInt = y ∧ ((x < P ∧ y < P ∧ (E 3).toInt ≤ (D (9 * x + y)).toInt ∧ o = some (updc D (9 * x + y) (D (9 * x + y) - E 3), G, M, N)) ∨ (¬ (x < P ∧ y < P ∧ (E 3).toInt ≤ (D (9 * x + y)).toInt) ∧ o = none))) ∨ (E 0 = 2 ∧ ∃ m : Nat, ERg E m ∧ ((fitS P V D E m (E 1) ∧ o = some (adD E m (E 1) m D, rgW E N m (rg4 N (Int32.ofNat m) (E 1) (E 2) G), M, N + 1)) ∨ (¬ fitS P V D E m (E 1) ∧ o = none))) ∨ (E 0 = 3 ∧ ∃ K : Nat, (E 1).toInt = K ∧ ((K < N ∧ opn G K = true ∧ o = some ((strk K (D, G)).1, (strk K (D, G)).2, M, N)) ∨ (¬ (K < N ∧ opn G K = true) ∧ o = none))) ∨ (E 0 = 4 ∧ ∃ m : Nat, (E 1).toInt = m ∧ ((m < P ∧ o = some (zrL m P (flS (cF m) N (D, G)).1, (flS (cF m) N (D, G)).2, M, N)) ∨ (¬ m < P ∧ o = none))) ∨ (E 0 = 5 ∧ o = some ((flS (cM (M + 1)) N (D, G)).1, (flS (cM (M + 1)) N (D, G)).2, M + 1, N))
end HB
end
section
/-! ===== acts one after another ===== -/
section HGC
variable {p1 p2 p3 x1 y1 M nn : Int32} {n i v j m N K P k t s b Q : Nat} {D D' G G' G1 G2 V V' E E' : Nat → Int32} {o o1 o2 : AO}
abbrev SN : Type := (Nat → Int32) × (Nat → Int32) × Int32 × Nat
variable {s1 s2 t1 t2 : SN} {Es Es' : Nat → Nat → Int32}
end HGC
end
section
/-! ===== what is behind n acts of a row in a village: the class's load, one description ===== -/
section HIS
variable {X : pm_X} {k k2 : Nat} {w0 w w1 w2 w' : pm_W} {r r2 : Option Value} {p p1 p2 p3 p4 p5 i1 i2 i3 sl : Int32} {n i v j m u u2 P t s b Q x rr len : Nat} {a V G G1 G2 : Nat → Int32} {Es : Nat → Nat → Int32} {s0 s1 s2 : SN}
def RL3 (w : pm_W) : Prop := RL2 w ∧ VAa (al w)
end HIS
end
section
/-! ===== states asked on both sides: lawful, over, room, owes ===== -/
section HKA
variable {X : pm_X} {k k2 : Nat} {w0 w w1 w2 w3 w4 w' : pm_W} {r r2 q1 q2 : Option Value} {p p1 p2 p3 p4 p5 i1 i2 i3 sl : Int32} {n i v j m u u2 P t s b Q x rr len : Nat} {a V G G1 G2 : Nat → Int32} {Es : Nat → Nat → Int32} {s0 s1 s2 : SN}
theorem i10 : ¬ (some (Value.int 1) = some (Value.int 0)) := fun h => absurd (Value.int.inj (Option.some.inj h)) (by decide +kernel)
end HKA
end
section
/-! ===== what is told and the images stay valid ===== -/
section HPV
variable {X : pm_X} {k k2 : Nat} {w0 w w1 w2 w' : pm_W} {r r2 : Option Value} {p p1 p2 p3 p4 p5 f0 p0 f q x : Int32} {n i v j m s T L : Nat} {a : Nat → Int32}
def VI (w : pm_W) : Prop := ∀ k, k < 3 → (gA w 149).getD k 0 ≠ 0 → VAa (fun q => al w (1690 * (k + 1) + q))
/-- alike and valid: what is told now, and each image that is there -/
def RL4 (w : pm_W) : Prop := RL3 w ∧ VI w
theorem VI_cg (h : VI w) (h9 : gA w2 149 = gA w 149) (e : ∀ q, 1690 ≤ q → al w2 q = al w q) : VI w2 := by
  intro k hk z
  rw [h9] at z
  have q := h k hk z
  rw [show (fun q => al w2 (1690 * (k + 1) + q)) = (fun q => al w (1690 * (k + 1) + q)) from funext fun q => e _ (by omega)]
  exact q
end HPV
end
section
/-! ===== sums, cuts ===== -/
section ICS
variable {f g : Nat → Int} {n m i j s t : Nat} {h c r : Nat → Nat → Int} {S S1 S2 : Nat → Bool} {o v : Nat → Int} {x y : Int}
def suI (f : Nat → Int) : Nat → Int
  | 0 => 0
  | n + 1 => suI f n + f n
end ICS
end
section
/-! ===== rings for a want: which there are, which is best ===== -/
section JEA
variable {R : Nat → Nat → Int} {y : Int} {P a b m c m' c' d p i j x t q : Nat} {G G' : Nat → Nat → Int} {V V' : Nat → Nat → Prop}
/-- who is at i in the ring of m with number c -/
def elN (a b m c i : Nat) : Nat := if i = 0 then a else if i = 1 then b else c / 9 ^ (m - 1 - i) % 9
/-- better: the measure, then shorter, then the lesser number -/
def BTt (G : Nat → Nat → Int) (m c m' c' : Nat) : Prop := G m' c' < G m c ∨ (G m c = G m' c' ∧ (m < m' ∨ (m = m' ∧ c < c')))
def BSt (G : Nat → Nat → Int) (V : Nat → Nat → Prop) (m c : Nat) : Prop := V m c ∧ ∀ m' c', V m' c' → (m' = m ∧ c' = c) ∨ BTt G m c m' c'
theorem BTt_as (h1 : BTt G m c m' c') (h2 : BTt G m' c' m c) : False := by
  unfold BTt at h1 h2
  omega
theorem BSt_uq (h1 : BSt G V m c) (h2 : BSt G V m' c') : m = m' ∧ c = c' := by
  rcases h1.2 m' c' h2.1 with q | q
  · exact ⟨q.1.symm, q.2.symm⟩
  · rcases h2.2 m c h1.1 with q2 | q2
    · exact q2
    · exact (BTt_as q q2).elim
end JEA
end
section
/-! ===== long fields; allParts, isBetter ===== -/
section JFA
variable {X : pm_X} {k k2 : Nat} {w0 w w1 w2 w3 w4 w5 wj w' : pm_W} {r r2 q0 q1 q2 : Option Value} {p1 p2 p3 p4 p5 i1 i2 i3 i4 i5 i6 i7 i8 z z1 z2 so : Int32} {i v j m u P t s b Q I J K a T p W N κ bm n : Nat} {l x y : Int64} {e g ch ch' cst cst' : Int} {f : Nat → Int}
/-! long sums -/
/-- the measure: cheap, fast or none -/
def GSv (so : Int32) (cst ch : Int) (m : Nat) : Int := if so = 1 then -cst else if so = 2 then ch * (100 : Int) ^ (6 - m) else 0
end JFA
end
section
/-! ===== consider ===== -/
section JGA
variable {X : pm_X} {k k2 : Nat} {w0 w w1 w2 w3 w4 w5 wj w' : pm_W} {r r2 q0 q1 q2 : Option Value} {p1 p2 p3 p4 p5 i1 i2 i3 i4 i5 i6 i7 i8 z z1 z2 so x : Int32} {i v j m c m' c' u P t s a b Q I J K T p W N κ bm n : Nat} {l : Int64} {e g y : Int} {f fe rk : Nat → Int} {V : Nat → Nat → Prop} {R : Nat → Nat → Int}
def cstN (fe : Nat → Int) (a b m c t : Nat) : Int := suI (fun i => if 2 ≤ i then fe (elN a b m c i) else 0) t
def prI (f : Nat → Int) : Nat → Int
  | 0 => 1
  | n + 1 => prI f n * f n
def chN (rk : Nat → Int) (a b m c t : Nat) : Int := prI (fun i => 100 - rk (elN a b m c i)) t
def GR (so : Int32) (fe rk : Nat → Int) (a b m c : Nat) : Int := GSv so (cstN fe a b m c m) (chN rk a b m c m) m
/-- the best of those seen -/
def SBw (w : pm_W) (P : Nat) (so : Int32) (fe rk : Nat → Int) (a b : Nat) (V : Nat → Nat → Prop) : Prop := ((gI w 55 6).toInt = 0 ∧ ∀ m c, ¬ V m c) ∨ ∃ m c : Nat, BSt (GR so fe rk a b) V m c ∧ (2 ≤ m ∧ m ≤ 6) ∧ (gI w 55 6).toInt = m ∧ (∀ i, i < m → ((gA w 67).getD i 0).toInt = elN a b m c i ∧ elN a b m c i < P) ∧ (gI w 55 7).toInt = cstN fe a b m c m ∧ (gL w 55 8).toInt = chN rk a b m c m
end JGA
end
section
/-! ===== finds: the reference ===== -/
section JLA
variable {X : pm_X} {k k2 : Nat} {w0 w w1 w2 w3 w4 w5 wj w' : pm_W} {r r2 q0 q1 q2 : Option Value} {p1 p2 p3 p4 p5 i1 i2 i3 i4 i5 i6 i7 i8 i9 z z1 z2 so x : Int32} {i v j m c u P t s a b d p q fx Q I J K T W N κ bm n : Nat} {l l6 l10 : Int64} {e g y : Int} {fe rk : Nat → Int} {E : Nat → Nat} {u9 u10 u12 : Value} {V : Nat → Nat → Prop} {R : Nat → Nat → Int}
def SBr (w : pm_W) (P : Nat) (so : Int32) (fe rk : Nat → Int) (a b : Nat) (V : Nat → Nat → Prop) : Prop := ((gI w 147 23).toInt = 0 ∧ ∀ m c, ¬ V m c) ∨ ∃ m c : Nat, BSt (GR so fe rk a b) V m c ∧ (2 ≤ m ∧ m ≤ 6) ∧ (gI w 147 23).toInt = m ∧ ∀ i, i < m → ((gA w 159).getD i 0).toInt = elN a b m c i ∧ elN a b m c i < P
end JLA
end
section
/-! ===== find, asked on both sides ===== -/
section JNA
variable {X : pm_X} {k k2 : Nat} {w0 w w1 w2 w3 w4 w5 w6 w8 wj w' : pm_W} {r r2 q0 q1 q2 : Option Value} {p1 p2 p3 p4 p5 p6 i1 i2 i3 i4 i5 i6 i7 i8 i9 z z1 z2 so x : Int32} {i v j m c u P t s b d p q fx Q I J K T W N κ bm n : Nat} {l l6 l10 : Int64} {e g y : Int} {fe rk : Nat → Int} {E : Nat → Nat} {u9 u10 u12 : Value} {V : Nat → Nat → Prop} {R : Nat → Nat → Int} {a : Nat → Int32} {s1 t1 t2 : SN}
/-- what both found -/
theorem both (hw : SBw w P so fe rk b d V) (hr : SBr w2 P so fe rk b d V) : ((gI w 55 6).toInt = 0 ∧ (gI w2 147 23).toInt = 0) ∨ ∃ m c : Nat, (2 ≤ m ∧ m ≤ 6) ∧ (gI w 55 6).toInt = m ∧ (gI w2 147 23).toInt = m ∧ (∀ i, i < m → ((gA w 67).getD i 0).toInt = elN b d m c i ∧ elN b d m c i < P) ∧ (∀ i, i < m → ((gA w2 159).getD i 0).toInt = elN b d m c i) ∧ (gI w 55 7).toInt = cstN fe b d m c m ∧ (gL w 55 8).toInt = chN rk b d m c m := by
  rcases hw with ⟨a1, a2⟩ | ⟨m, c, a1, a2, a3, a4, a5, a6⟩
  · rcases hr with ⟨b1, b2⟩ | ⟨m', c', b1, b2, b3, b4⟩
    · exact Or.inl ⟨a1, b1⟩
    · exact absurd b1.1 (a2 m' c')
  · rcases hr with ⟨b1, b2⟩ | ⟨m', c', b1, b2, b3, b4⟩
    · exact absurd a1.1 (b2 m c)
    · obtain ⟨e1, e2⟩ := BSt_uq a1 b1
      rw [← e1, ← e2] at b4
      exact Or.inr ⟨m, c, a2, a3, by rw [b3, e1], a4, fun i hi => (b4 i hi).1, a5, a6⟩
end JNA
end
section
/-! ===== state: sums over debts, rooms, couples ===== -/
section JZA
variable {X : pm_X} {k k2 : Nat} {w0 w w1 w2 w3 w4 w5 wj w' : pm_W} {r r2 q0 q1 q2 : Option Value} {p1 p2 p3 p4 p5 p i1 i2 i3 i4 i5 i6 i7 i8 z z1 z2 x n : Int32} {a i v j m c u P t s b d q N K : Nat} {y : Int} {D D' V V' E : Nat → Int32} {G G' G1 G2 : Nat → Int32} {g g' : Nat → Nat → Int32} {f h : Nat → Int} {s1 t1 t2 : SN} {M : Int32}
def f32 (D : Nat → Int32) : Nat → Int32
  | 0 => 0
  | n + 1 => f32 D n + D n
/-! nobody owes himself -/
/-! netted -/
end JZA
end
