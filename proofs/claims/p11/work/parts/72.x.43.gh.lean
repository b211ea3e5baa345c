/-! ===== the class reads a tape ===== -/
section GHR
variable {w w1 w2 w3 : pm_W} {a b n m i : Nat} {x y : Int32}
/-- a field whose reference changes -/
def sk_rf (a n : Nat) : Bool := match sk0[a]? with
  | some (.inr (ci, fs)) => RFb ci n && Nat.beq (sk_k (fs.getD n .null)) 3
  | _ => false
theorem SK_rf (hS : SK w) (h : sk_rf a n = true) : ∃ ci fs c, w[a]? = some (.inr (ci, fs)) ∧ RFb ci n = true ∧ fs[n]? = some (.ref c) := by
  unfold sk_rf at h
  cases hw : w[a]? with
  | none =>
    have e : sk0[a]? = none := by rw [← show w.map sk_e = sk0 from hS, List.getElem?_map, hw]; rfl
    rw [e] at h
    cases h
  | some q =>
    rw [SK_at hS hw] at h
    cases q with
    | inl q =>
      obtain ⟨t, q⟩ := q
      rcases q with q | q | q <;> cases h
    | inr q =>
      obtain ⟨ci, fs⟩ := q
      have h : (RFb ci n && Nat.beq (sk_k ((sk_f ci 0 fs).getD n .null)) 3) = true := h
      rw [Bool.and_eq_true] at h
      obtain ⟨h1, h2⟩ := h
      have h2 := Nat.eq_of_beq_eq_true h2
      rw [List.getD_eq_getElem?_getD, sk_fget] at h2
      cases hv : fs[n]? with
      | none =>
        rw [hv] at h2
        cases h2
      | some v =>
        rw [hv] at h2
        have h2 : sk_k (sk_v ci (0 + n) v) = 3 := h2
        rw [sk_vk] at h2
        cases v <;> first | exact ⟨ci, fs, _, rfl, h1, hv⟩ | cases h2
theorem sR_eq {ci c : Nat} {fs : List Value} (hw : w[a]? = some (.inr (ci, fs))) (hr : RFb ci n = true) (hf : fs[n]? = some (.ref c)) : sR w a n b = w.set a (.inr (ci, fs.set n (.ref b))) := by
  unfold sR
  rw [hw]
  show cond (RFb ci n) _ _ = _
  rw [hr]
  show (match fs[n]? with | some (.ref _) => w.set a (.inr (ci, fs.set n (.ref b))) | _ => w) = _
  rw [hf]
theorem gR_sR (hS : SK w) (h : sk_rf a n = true) : gR (sR w a n b) a n = b := by
  obtain ⟨ci, fs, c, hw, hr, hf⟩ := SK_rf hS h
  rw [sR_eq hw hr hf]
  unfold gR
  obtain ⟨hl, _⟩ := List.getElem?_eq_some_iff.mp hf
  rw [gV_of (wk_eq hw) (List.getElem?_set_self hl)]
  rfl
theorem FM_sR {fs : List (Nat × Nat)} {as : List Nat} (hS : SK w) (hr : sk_rf a n = true) (h : (a, n) ∈ fs) : FM fs as w (sR w a n b) := by
  obtain ⟨ci, gs, c, hw, hr, hf⟩ := SK_rf hS hr
  have hS' : SK (sR w a n b) := SK_sR hS
  rw [sR_eq hw hr hf] at hS' ⊢
  exact ⟨fun d m q => gV_set_ne hw (fun e => q (by rw [← e.1, ← e.2]; exact h)), fun d _ => gA_set_o hw, fun d => gQ_set_o hw, hS'⟩
end GHR
section GH
variable {X : pm_X} {k : Nat} {w0 w w' : pm_W} {r : Option Value} {p p1 p2 p3 f0 p0 f q : Int32} {bs : Nat → Int32} {n i v j m : Nat} {b : Bool} {c : Nat → Int32} {g : Int}
/-- the fault and its place, with the last one -/
def fF (b : Bool) (o : OC) : Int32 := if b = true ∧ o.2.1 = 0 ∧ (o.2.2.2.1 0).toInt ≤ o.2.2.2.2 then 4 else o.2.1
def pF (b : Bool) (n : Nat) (o : OC) : Int32 := if b = true ∧ o.2.1 = 0 ∧ (o.2.2.2.1 0).toInt ≤ o.2.2.2.2 then Int32.ofNat n else o.2.2.1
/-- an outcome without the last fault -/
theorem fF_n {o : OC} (h : ¬ (b = true ∧ o.2.1 = 0 ∧ (o.2.2.2.1 0).toInt ≤ o.2.2.2.2)) : fF b o = o.2.1 ∧ pF b n o = o.2.2.1 := ⟨if_neg h, if_neg h⟩
theorem fF_y {o : OC} (h : b = true ∧ o.2.1 = 0 ∧ (o.2.2.2.1 0).toInt ≤ o.2.2.2.2) : fF b o = 4 ∧ pF b n o = Int32.ofNat n := ⟨if_pos h, if_pos h⟩
theorem F18_end {x : Int32} (hx : x.toInt = n) (h10 : gI w 23 10 = f) (h11 : gI w 23 11 = p) (hS : SK w) (hc : CC true w c g) (q : if (gI w 23 9) < (gI w 24 0) then (r = none ∧ w' = w) else (∃ (r1 : Option Value) (w2 : pm_W), PS X k 46 0 [.ref 23, .int 4, .int x] [] w r1 w2 ∧ (r1 = none → SK w2 → (r = none ∧ w' = w2)))) : r = none ∧ FM flR alR w w' ∧ gI w' 23 10 = fF true (false, f, p, c, g) ∧ gI w' 23 11 = pF true n (false, f, p, c, g) ∧ (fF true (false, f, p, c, g) = 0 → CC true w' c g) := by
  have hc' := hc
  rw [CC_t] at hc'
  have e0 := hc'.1 0
  rw [vcl_0] at e0
  by_cases z : gI w 23 9 < gI w 24 0
  · rw [if_pos z] at q
    obtain ⟨q1, q2⟩ := q
    subst w'
    rw [Int32.lt_iff_toInt_lt, hc'.2, e0] at z
    have nn : ¬ (true = true ∧ f = 0 ∧ (c 0).toInt ≤ g) := fun y => by have := y.2.2; omega
    obtain ⟨y1, y2⟩ := fF_n (b := true) (n := n) (o := (false, f, p, c, g)) nn
    rw [y1, y2]
    exact ⟨q1, FM_refl hS, h10, h11, fun _ => hc⟩
  · rw [if_neg z] at q
    rw [Int32.lt_iff_toInt_lt, hc'.2, e0] at z
    obtain ⟨r1, w2, q1, q2⟩ := q
    obtain ⟨u1, u2, u3, u4⟩ := F46 hS q1
    obtain ⟨q3, q4⟩ := q2 u1 u2.2.2.2
    subst w'
    rw [h10] at u3 u4
    rw [h11] at u4
    by_cases ef : f = 0
    · have yy : true = true ∧ f = 0 ∧ (c 0).toInt ≤ g := ⟨rfl, ef, by omega⟩
      obtain ⟨y1, y2⟩ := fF_y (b := true) (n := n) (o := (false, f, p, c, g)) yy
      rw [y1, y2, u3, u4, if_pos ef, if_pos ef]
      exact ⟨q3, FM_mono u2 (by decide) (by decide), rfl, Int32.toInt_inj.mp (by rw [hx]; exact (ofN_i (by have := zi_hi x; omega)).symm), fun y => absurd y (by decide +kernel)⟩
    · have nn : ¬ (true = true ∧ f = 0 ∧ (c 0).toInt ≤ g) := fun y => ef y.2.1
      obtain ⟨y1, y2⟩ := fF_n (b := true) (n := n) (o := (false, f, p, c, g)) nn
      rw [y1, y2, u3, u4, if_neg ef, if_neg ef]
      exact ⟨q3, FM_mono u2 (by decide) (by decide), rfl, rfl, fun y => absurd y ef⟩
theorem tP_grow2 (hk : tkK bs n i = 1) (ho : OK bs n i v m) : i + (m + 2) ≤ tP bs n i (m + 2) := by
  refine tP_grow (m + 2) (fun t ht => ?_)
  by_cases e0 : t = 0
  · subst e0
    show tkK bs n i ≠ 0
    rw [hk]; decide
  · obtain ⟨t', rfl⟩ : ∃ t', t = t' + 1 := ⟨t - 1, by omega⟩
    by_cases e1 : t' = m
    · rw [e1, ho.2.2.2]; decide
    · rw [ho.1 t' (by omega)]; decide
theorem F18_56 (hX : XO X) {o1 : Nat} {i2 i3 : Int32} (hb : b = decide (i3 = 0)) : ∀ (k : Nat) (w : pm_W) (i : Nat) (f p : Int32) (c : Nat → Int32) (g : Int) (t : Nat) (i4 : Int32), CS w bs n i f p → CC b w c g → (gI w 23 4).toInt = n → i4.toInt = t → t ≤ i → PS X k 18 56 [.ref 23, .ref o1, .int i2, .int i3, .int i4] [] w r w' → r = none ∧ FM flR alR w w' ∧ ∃ (N : Nat) (o : OC), RDq b bs n N i f p c g o ∧ gI w' 23 10 = fF b o ∧ gI w' 23 11 = pF b n o ∧ (fF b o = 0 → CC b w' o.2.2.2.1 o.2.2.2.2) := by
  intro k
  induction k with
  | zero => intro w i f p c g t i4 h hc hn4 h4 ht q; exact (PS_0 q).elim
  | succ k ih =>
    intro w i f p c g t i4 h hc hn4 h4 ht q
    have hS : SK w := h.1
    have q := U18_56 hS q
    have hi := h.2.2.2.2.2.2.2.2.2
    have n6 := h.2.2.2.2.2.2.2.2.1
    rw [if_neg (by rw [Int32.lt_iff_toInt_lt]; omega)] at q
    have hT := h.2.1
    by_cases ck : gI w 23 6 = 0
    · rw [if_pos ck] at q
      rw [hT.1, show (0 : Int32) = Int32.ofNat 0 from rfl, tkK_inj tkK_4 (by decide)] at ck
      by_cases e3 : i3 = 0
      · rw [if_pos e3] at q
        have hbt : b = true := by rw [hb, decide_eq_true e3]
        subst hbt
        obtain ⟨y1, y2, y3, y4, y5⟩ := F18_end hn4 h.2.2.2.2.1 h.2.2.2.2.2.1 hS hc q
        exact ⟨y1, y2, 1, _, Or.inl ⟨ck, rfl⟩, y3, y4, y5⟩
      · rw [if_neg e3] at q
        have hbf : b = false := by rw [hb, decide_eq_false e3]
        subst hbf
        obtain ⟨y1, y2⟩ := q
        subst w'
        have nn : ¬ (false = true ∧ f = 0 ∧ (c 0).toInt ≤ g) := fun y => Bool.noConfusion y.1
        obtain ⟨z1, z2⟩ := fF_n (b := false) (n := n) (o := (false, f, p, c, g)) nn
        refine ⟨y1, FM_refl hS, 1, (false, f, p, c, g), Or.inl ⟨ck, rfl⟩, ?_, ?_, fun _ => hc⟩
        · rw [z1]; exact h.2.2.2.2.1
        · rw [z2]; exact h.2.2.2.2.2.1
    · rw [if_neg ck] at q
      rw [hT.1, show (0 : Int32) = Int32.ofNat 0 from rfl, tkK_inj tkK_4 (by decide)] at ck
      obtain ⟨r5, w6, q1, q2⟩ := q
      obtain ⟨f6, z⟩ := CS_one hX hb h hc q1
      have hS6 := f6.2.2.2
      have brk : ∀ (I : Nat), r5 = some (.int 0) → gI w6 23 7 = pl bs n I → r = none ∧ FM flR alR w w' ∧ gI w' 23 10 = 1 ∧ gI w' 23 11 = pl bs n I := by
        intro I e1 e2
        have q := q2 0 e1 hS6
        rw [if_pos rfl] at q
        have q := q _ rfl _ rfl
        obtain ⟨y1, y2⟩ := q
        have fa : FM flR alR w6 (sI w6 23 10 1) := FM_sI hS6 (by decide)
        have fb : FM flR alR (sI w6 23 10 1) (sI (sI w6 23 10 1) 23 11 (gI (sI w6 23 10 1) 23 7)) := FM_sI fa.2.2.2 (by decide)
        rw [y2]
        refine ⟨y1, FM_trans f6 (FM_trans fa fb), ?_, ?_⟩
        · rw [gI_sI_ne (by decide), gI_sI (SK_isF hS6 (by decide +kernel))]
        · rw [gI_sI (SK_isF fa.2.2.2 (by decide +kernel)), gI_sI_ne (by decide)]
          exact e2
      have nn : ∀ P : Int32, ¬ (b = true ∧ (1 : Int32) = 0 ∧ (c 0).toInt ≤ g) := fun _ y => absurd y.2.1 (by decide +kernel)
      rcases z with ⟨a1, a2, a3⟩ | ⟨v, m, a1, a2, a3, a4⟩ | ⟨v, m, a1, a2, a3, a4, a5⟩
      · obtain ⟨y1, y2, y3, y4⟩ := brk i a2 a3
        obtain ⟨z1, z2⟩ := fF_n (b := b) (n := n) (o := (true, 1, pl bs n i, c, g)) (nn 0)
        refine ⟨y1, y2, 1, (true, 1, pl bs n i, c, g), Or.inr (Or.inl ⟨ck, a1, rfl⟩), by rw [z1]; exact y3, by rw [z2]; exact y4, fun y => ?_⟩
        rw [z1] at y
        exact absurd (show (1 : Int32) = 0 from y) (by decide +kernel)
      · obtain ⟨y1, y2, y3, y4⟩ := brk (tP bs n i (m + 1)) a3 a4
        obtain ⟨z1, z2⟩ := fF_n (b := b) (n := n) (o := (true, 1, pl bs n (tP bs n i (m + 1)), c, g)) (nn 0)
        refine ⟨y1, y2, 1, (true, 1, pl bs n (tP bs n i (m + 1)), c, g), Or.inr (Or.inr (Or.inl ⟨v, m, a1, a2, rfl⟩)), by rw [z1]; exact y3, by rw [z2]; exact y4, fun y => ?_⟩
        rw [z1] at y
        exact absurd (show (1 : Int32) = 0 from y) (by decide +kernel)
      · have q := q2 1 a3 hS6
        rw [if_neg (by decide +kernel)] at q
        have gr := tP_grow2 (vbT_k a1) a2
        have hn6 : (gI w6 23 4).toInt = n := by rw [FM_i f6 (by decide)]; exact hn4
        obtain ⟨y1, y2, N, o, y3, y4⟩ := ih w6 _ _ _ _ _ (t + 1) (i4 + 1) a4 a5 hn6 (by rw [zi_inc (n := 2147483647) (by omega) (by omega), h4]; rfl) (by omega) q
        exact ⟨y1, FM_trans f6 y2, N + 1, o, Or.inr (Or.inr (Or.inr ⟨v, m, a1, a2, y3⟩)), y4⟩
end GH
