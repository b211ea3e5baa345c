/-! ===== the least cut is the most that goes through ===== -/
section IDF
variable {f g : Nat → Int} {n m i j s t k : Nat} {c r c' : Nat → Nat → Int} {S : Nat → Bool} {o o' v : Nat → Int} {x y : Int}
/-- what is left of c on the way and back -/
def FLW (c r : Nat → Nat → Int) (n : Nat) : Prop := (∀ a b, a < n → b < n → a ≠ b → 0 ≤ r a b) ∧ ∀ a b, a < n → b < n → r a b + r b a = c a b + c b a
def gone (c r : Nat → Nat → Int) (n a : Nat) : Int := suI (fun b => c a b - r a b) n
/-- the most from s to t -/
def MCst (c : Nat → Nat → Int) (n s t : Nat) (x : Int) : Prop := (∀ S : Nat → Bool, S s = true → S t = false → x ≤ cutC c S n) ∧ ∃ S : Nat → Bool, S s = true ∧ S t = false ∧ x = cutC c S n
theorem net_F (hF : FLW c r n) : suI (fun a => bz (S a) (gone c r n a)) n = cutC (fun a b => c a b - r a b) S n := by
  refine net_S (h := fun a b => c a b - r a b) (fun a b ha hb => ?_)
  have q := hF.2 a b ha hb
  show c a b - r a b = -(c b a - r b a)
  omega
theorem net_le (hF : FLW c r n) : suI (fun a => bz (S a) (gone c r n a)) n ≤ cutC c S n := by
  rw [net_F hF]
  refine cut_le (fun a b ha hb hne => ?_)
  have q := hF.1 a b ha hb hne
  show c a b - r a b ≤ c a b
  omega
theorem net_eq (hF : FLW c r n) (h0 : ∀ a b, a < n → b < n → S a = true → S b = false → r a b = 0) : suI (fun a => bz (S a) (gone c r n a)) n = cutC c S n := by
  rw [net_F hF]
  refine cut_eq (fun a b ha hb h1 h2 => ?_)
  have q := h0 a b ha hb h1 h2
  show c a b - r a b = c a b
  omega
theorem st_sum (hs : s < n) (h1 : S s = true) (h2 : S t = false) (hv : ∀ a, a < n → gone c r n a = (if a = s then x else 0) - (if a = t then x else 0)) : suI (fun a => bz (S a) (gone c r n a)) n = x := by
  have e : suI (fun a => bz (S a) (gone c r n a)) n = suI (fun i => if i = s then x else 0) n := by
    refine suI_cg n (fun a ha => ?_)
    rw [hv a ha]
    by_cases e1 : a = s
    · rw [e1, h1, if_pos rfl, if_neg (fun e => by rw [e, h2] at h1; exact Bool.noConfusion h1)]
      show x - 0 = x
      omega
    · rw [if_neg e1]
      by_cases e2 : a = t
      · rw [e2, h2]; rfl
      · rw [if_neg e2]
        cases S a <;> rfl
  rw [e, suI_one n hs]
theorem st_MC (hF : FLW c r n) (hs : s < n) (hv : ∀ a, a < n → gone c r n a = (if a = s then x else 0) - (if a = t then x else 0)) (h1 : S s = true) (h2 : S t = false) (h0 : ∀ a b, a < n → b < n → S a = true → S b = false → r a b = 0) : MCst c n s t x := by
  refine ⟨fun S' a1 a2 => ?_, S, h1, h2, ?_⟩
  · have q := net_le (S := S') hF
    rw [st_sum hs a1 a2 hv] at q
    exact q
  · have q := net_eq hF h0
    rw [st_sum hs h1 h2 hv] at q
    exact q
/-- with what each has and wants -/
def psI (x : Int) : Int := max x 0
def CUTo (c : Nat → Nat → Int) (o : Nat → Int) (S : Nat → Bool) (n : Nat) : Int := suI (fun a => bz (!S a) (psI (o a)) + bz (S a) (psI (-o a))) n + cutC c S n
def MCo (c : Nat → Nat → Int) (o : Nat → Int) (n : Nat) (x : Int) : Prop := (∀ S : Nat → Bool, x ≤ CUTo c o S n) ∧ ∃ S : Nat → Bool, x = CUTo c o S n
theorem MCo_uq (h1 : MCo c o n x) (h2 : MCo c o n y) : x = y := by
  obtain ⟨a1, S1, a2⟩ := h1
  obtain ⟨b1, S2, b2⟩ := h2
  have q1 := a1 S2
  have q2 := b1 S1
  omega
/-- what is left over, between nothing and what there was -/
def OV (o v : Nat → Int) (n : Nat) : Prop := ∀ a, a < n → (0 ≤ o a → 0 ≤ v a ∧ v a ≤ o a) ∧ (o a ≤ 0 → o a ≤ v a ∧ v a ≤ 0)
theorem o_le (hF : FLW c r n) (hv : ∀ a, a < n → gone c r n a = o a - v a) (hO : OV o v n) : suI (fun a => psI (o a)) n - suI (fun a => psI (v a)) n ≤ CUTo c o S n := by
  have q := net_le (S := S) hF
  have e : suI (fun a => bz (S a) (gone c r n a)) n = suI (fun a => bz (S a) (o a - v a)) n := suI_cg n (fun a ha => by rw [hv a ha])
  rw [e] at q
  unfold CUTo
  rw [← suI_sub n]
  have l : suI (fun a => psI (o a) - psI (v a)) n ≤ suI (fun a => bz (S a) (o a - v a) + (bz (!S a) (psI (o a)) + bz (S a) (psI (-o a)))) n := by
    refine suI_le n (fun a ha => ?_)
    obtain ⟨h1, h2⟩ := hO a ha
    cases S a with
    | false =>
      show psI (o a) - psI (v a) ≤ 0 + (psI (o a) + 0)
      unfold psI
      omega
    | true =>
      show psI (o a) - psI (v a) ≤ (o a - v a) + (0 + psI (-o a))
      unfold psI
      omega
  rw [suI_add n] at l
  omega
theorem o_eq (hF : FLW c r n) (hv : ∀ a, a < n → gone c r n a = o a - v a) (hO : OV o v n) (h0 : ∀ a b, a < n → b < n → S a = true → S b = false → r a b = 0) (h1 : ∀ a, a < n → 0 < v a → S a = true) (h2 : ∀ a, a < n → v a < 0 → S a = false) : suI (fun a => psI (o a)) n - suI (fun a => psI (v a)) n = CUTo c o S n := by
  have q := net_eq hF h0
  have e : suI (fun a => bz (S a) (gone c r n a)) n = suI (fun a => bz (S a) (o a - v a)) n := suI_cg n (fun a ha => by rw [hv a ha])
  rw [e] at q
  unfold CUTo
  rw [← suI_sub n]
  have l : suI (fun a => psI (o a) - psI (v a)) n = suI (fun a => bz (S a) (o a - v a) + (bz (!S a) (psI (o a)) + bz (S a) (psI (-o a)))) n := by
    refine suI_cg n (fun a ha => ?_)
    obtain ⟨h3, h4⟩ := hO a ha
    have h1 := h1 a ha
    have h2 := h2 a ha
    cases hs : S a with
    | false =>
      rw [hs] at h1
      have : ¬ 0 < v a := fun z => Bool.noConfusion (h1 z)
      show psI (o a) - psI (v a) = 0 + (psI (o a) + 0)
      unfold psI
      omega
    | true =>
      rw [hs] at h2
      have : ¬ v a < 0 := fun z => Bool.noConfusion (h2 z)
      show psI (o a) - psI (v a) = (o a - v a) + (0 + psI (-o a))
      unfold psI
      omega
  rw [suI_add n] at l
  omega
theorem o_MC (hF : FLW c r n) (hv : ∀ a, a < n → gone c r n a = o a - v a) (hO : OV o v n) (h0 : ∀ a b, a < n → b < n → S a = true → S b = false → r a b = 0) (h1 : ∀ a, a < n → 0 < v a → S a = true) (h2 : ∀ a, a < n → v a < 0 → S a = false) : MCo c o n (suI (fun a => psI (o a)) n - suI (fun a => psI (v a)) n) := ⟨fun _ => o_le hF hv hO, S, o_eq hF hv hO h0 h1 h2⟩
end IDF
