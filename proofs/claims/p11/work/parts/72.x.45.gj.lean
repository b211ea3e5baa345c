/-! ===== the reference reads a tape ===== -/
section GJ
variable {X : pm_X} {k : Nat} {w0 w w' : pm_W} {r : Option Value} {p p1 p2 p3 f0 p0 f q : Int32} {bs : Nat → Int32} {n i v j m : Nat} {b : Bool} {c : Nat → Int32} {g : Int}
def CR (b : Bool) (w : pm_W) (c : Nat → Int32) (g : Int) : Prop := (∀ q, rcl w q = c q) ∧ (b = true → (gI w 147 9).toInt = g)
/-- the count is in its range -/
def NC (b : Bool) (c : Nat → Int32) : Prop := if b = true then 0 ≤ (c 1).toInt ∧ (c 1).toInt ≤ 7 else 0 ≤ (c 0).toInt ∧ (c 0).toInt ≤ 30
theorem kS_1 {c ns : Nat → Int32} (h6 : 6 ≤ v) (h11 : v ≤ 11) : kS v c ns 1 = c 1 := by
  have cv : v = 6 ∨ v = 7 ∨ v = 8 ∨ v = 9 ∨ v = 10 ∨ v = 11 := by omega
  rcases cv with rfl | rfl | rfl | rfl | rfl | rfl
  · show (if 1 = 0 then ns 0 else c 1) = _
    rw [if_neg (by omega)]
  · show (if 1 = _ then _ else c 1) = _
    rw [if_neg (by omega)]
  · show (if 3 ≤ 1 ∧ 1 < 84 then (if (1 - 3) % 10 = 0 then 0 else ns 0) else c 1) = _
    rw [if_neg (by omega)]
  · show (if 1 = _ then _ else c 1) = _
    rw [if_neg (by omega)]
  · show (if 1 = _ then _ else c 1) = _
    rw [if_neg (by omega)]
  · show (if 1 = 2 then ns 0 else c 1) = _
    rw [if_neg (by omega)]
theorem NC_step {e : Nat → Int32} (hN : NC b c) (hv : vbT b bs n i = v) (ht : tmC b c v = false) : NC b (stC b v c e) := by
  cases b with
  | true =>
    unfold NC at hN ⊢
    rw [if_pos rfl] at hN ⊢
    obtain ⟨h6, h12⟩ := vbT_t hv
    show 0 ≤ (kS v c e 1).toInt ∧ (kS v c e 1).toInt ≤ 7
    by_cases e12 : v = 12
    · subst e12
      have ht : (if (12 : Nat) = 12 then decide (7 ≤ (c 1).toInt) else false) = false := ht
      rw [if_pos rfl] at ht
      have ht := of_decide_eq_false ht
      have e : kS 12 c e 1 = c 1 + 1 := by
        show (if (1 : Nat) = 1 then c 1 + 1 else if 102 + 4 * (c 1).toInt.toNat ≤ 1 ∧ 1 < 106 + 4 * (c 1).toInt.toNat then e (1 - (102 + 4 * (c 1).toInt.toNat)) else c 1) = _
        rw [if_pos rfl]
      rw [e, zi_add rfl o32 (by omega) (by omega)]
      omega
    · rw [kS_1 h6 (by omega)]
      exact hN
  | false =>
    unfold NC at hN ⊢
    rw [if_neg Bool.false_ne_true] at hN ⊢
    have ht : decide (30 ≤ (c 0).toInt) = false := ht
    have ht := of_decide_eq_false ht
    have e : stC false v c e 0 = c 0 + 1 := by
      show rowR c (Int32.ofNat v) e 0 = c 0 + 1
      unfold rowR
      rw [if_pos rfl]
    rw [e, zi_add rfl o32 (by omega) (by omega)]
    omega
theorem tm_any {t t' : Bool} {x : Int32} (h : f = 0 → t = t') : ntF t 3 f = ntF t' 3 f ∧ ntP t x f p = ntP t' x f p := by
  by_cases c : f = 0
  · rw [h c]
    exact ⟨rfl, rfl⟩
  · exact ⟨ntF_any c, ntP_any c⟩
theorem fD_0 (h : (fD b bs n i f p c v m).1 = 0) : f = 0 ∧ tmC b c v = false := ntF_z (by decide +kernel) (fJ_00 m h)
/-- a line, as the relation has it: the form broken, or a sentence -/
theorem RS_one (hN : f = 0 → NC b c) (h : RS w bs n i f p) (hc : f = 0 → CR b w c g) {k : Nat} {r : Option Value} {w1 : pm_W} (q : if b = true then PS X k 207 0 [.ref 147, pm_dead, pm_dead, pm_dead, pm_dead] [] w r w1 else PS X k 215 0 [.ref 147, pm_dead, pm_dead, pm_dead] [] w r w1) : r = none ∧ FM rl7 [148, 150, 151] w w1 ∧ AF w w1 ∧ ((vbT b bs n i = -1 ∧ BK w1 bs n i) ∨ (∃ v m : Nat, vbT b bs n i = v ∧ FI bs n i v m ∧ BK w1 bs n (tP bs n i (m + 1))) ∨ (∃ v m : Nat, vbT b bs n i = v ∧ OK bs n i v m ∧ RS w1 bs n (tP bs n i (m + 2)) (fD b bs n i f p c v m).1 (fD b bs n i f p c v m).2 ∧ ((fD b bs n i f p c v m).1 = 0 → NC b (cD b bs n i f p c v m) ∧ CR b w1 (cD b bs n i f p c v m) (gD b bs n i f p c g v m)))) := by
  cases b with
  | true =>
    rw [if_pos rfl] at q
    obtain ⟨z1, z2⟩ := F207 (len150 h.1) (fun hz => by rw [(hc hz).1 1]; have := hN hz; unfold NC at this; rw [if_pos rfl] at this; exact this.1) h q
    rcases z2 with ⟨a1, a2, a3, a4⟩ | ⟨v, a1, a2, a3, a4, a5, a6, m, a7⟩
    · exact ⟨z1, a2, a3, Or.inl ⟨a1, a4⟩⟩
    · have ht : f = 0 → tmV w v = tmC true c v := fun hz => by
        unfold tmV tmC tm12
        rw [(hc hz).1 1]
        show _ = (if v = 12 then decide (7 ≤ (c 1).toInt) else false)
        by_cases e : v = 12
        · subst e
          rw [if_pos rfl]
          rfl
        · rw [if_neg e]
          cases eb : Nat.beq v 12 with
          | true => exact absurd (Nat.eq_of_beq_eq_true eb) e
          | false => rfl
      obtain ⟨e1, e2⟩ := tm_any (p := p) (x := pl bs n i) ht
      rw [e1, e2] at a7
      refine ⟨z1, a5, a6, ?_⟩
      rcases a7 with ⟨b1, b2⟩ | ⟨b1, b2, b3⟩
      · exact Or.inr (Or.inl ⟨v, m, a1, b1, b2⟩)
      · refine Or.inr (Or.inr ⟨v, m, a1, b1, b2, fun hz => ?_⟩)
        obtain ⟨c1, c2, c3⟩ := b3 hz
        obtain ⟨d1, d2⟩ := fD_0 hz
        have hm : m = dueN v := b1.2.1 (by omega)
        have ag : ∀ t, t < dueN v → ns32 bs n i t = e8 bs n i m t := fun t ht => (e8_ns (by omega)).symm
        unfold cD gD
        rw [if_pos hz, if_pos hz]
        refine ⟨NC_step (hN d1) a1 d2, fun q => ?_, fun _ => ?_⟩
        · rw [c2 q, kS_congr a2 a3 ag, show rcl w = c from funext (hc d1).1]
          rfl
        · rw [c3, gS_congr a2 a3 ag, (hc d1).2 rfl]
  | false =>
    rw [if_neg Bool.false_ne_true] at q
    obtain ⟨z1, z2⟩ := F215 (fun hz => by rw [(hc hz).1 0]; have := hN hz; unfold NC at this; rw [if_neg Bool.false_ne_true] at this; exact this.1) h q
    rcases z2 with ⟨a1, a2, a3, a4⟩ | ⟨v, a1, a3, a4, a5, a6, m, a7⟩
    · exact ⟨z1, a2, a3, Or.inl ⟨a1, a4⟩⟩
    · have ht : f = 0 → tm30 w = tmC false c v := fun hz => by
        unfold tmC tm30
        rw [(hc hz).1 0]
        rfl
      obtain ⟨e1, e2⟩ := tm_any (p := p) (x := pl bs n i) ht
      rw [e1, e2] at a7
      refine ⟨z1, a5, a6, ?_⟩
      rcases a7 with ⟨b1, b2⟩ | ⟨b1, b2, b3⟩
      · exact Or.inr (Or.inl ⟨v, m, a1, b1, b2⟩)
      · refine Or.inr (Or.inr ⟨v, m, a1, b1, b2, fun hz => ?_⟩)
        obtain ⟨e, c1, c2⟩ := b3 hz
        obtain ⟨d1, d2⟩ := fD_0 hz
        unfold cD gD
        rw [if_pos hz, if_pos hz]
        refine ⟨NC_step (hN d1) a1 d2, fun q => ?_, fun y => Bool.noConfusion y⟩
        rw [c2 q, rowR_congr (e' := e8 bs n i m) c1, show rcl w = c from funext (hc d1).1]
        rfl
/-- the loop -/
theorem F198_128 {i1 i2 i3 : Int32} (hb : b = decide (i1 = 0)) : ∀ (k : Nat) (w : pm_W) (i : Nat) (f p : Int32) (c : Nat → Int32) (g : Int), RS w bs n i f p → (f = 0 → NC b c) → (f = 0 → CR b w c g) → PS X k 198 128 [.ref 147, .int i1, .int i2, .int i3, pm_dead, pm_dead] [] w r w' → ∃ (w1 : pm_W) (k' N : Nat) (o : OC), FM rl7 [148, 150, 151] w w1 ∧ AF w w1 ∧ RDq b bs n N i f p c g o ∧ qF w1 = o.2.1 ∧ qP w1 = o.2.2.1 ∧ (o.1 = true → o.2.1 = 1) ∧ (o.1 = false → gI w1 147 8 = 0 ∧ (gI w1 147 4).toInt = n) ∧ (o.2.1 = 0 → CR b w1 o.2.2.2.1 o.2.2.2.2) ∧ PS X k' 198 160 [.ref 147, .int i1, .int i2, .int i3, pm_dead, pm_dead] [] w1 r w' := by
  intro k
  induction k with
  | zero => intro w i f p c g h hN hc q; exact (PS_0 q).elim
  | succ k ih =>
    intro w i f p c g h hN hc q
    have hS := h.1
    have q := U198_128 hS q
    rw [if_pos h.2.1] at q
    have hT := h.2.2.1
    have hi := h.2.2.2.2.2.2.2.2.2
    by_cases ck : gI w 147 5 = 0
    · rw [if_pos ck] at q
      rw [hT.1] at ck
      have ck := rTk_0.mp ck
      have es : tkS bs n i = n := by
        have hk := ck
        unfold tkK at hk
        have sb := tkS_b (bs := bs) (n := n) (i := i)
        by_cases z : n ≤ tkS bs n i
        · omega
        · rw [if_neg z] at hk
          split at hk
          · exact absurd hk (by decide)
          · split at hk
            · split at hk
              · exact absurd hk (by decide)
              · exact absurd hk (by decide)
            · split at hk
              · exact absurd hk (by decide)
              · exact absurd hk (by decide)
      refine ⟨w, k, 1, (false, f, p, c, g), FM_refl hS, AF_refl, Or.inl ⟨ck, rfl⟩, h.2.2.2.2.2.2.1, h.2.2.2.2.2.2.2.1, fun y => Bool.noConfusion y, fun _ => ⟨h.2.1, ?_⟩, hc, q⟩
      rw [hT.2.1, es]
    · rw [if_neg ck] at q
      rw [hT.1] at ck
      have ck : tkK bs n i ≠ 0 := fun z => ck (rTk_0.mpr z)
      have q : ∃ (r3 : Option Value) (w4 : pm_W), (if b = true then PS X k 207 0 [.ref 147, pm_dead, pm_dead, pm_dead, pm_dead] [] w r3 w4 else PS X k 215 0 [.ref 147, pm_dead, pm_dead, pm_dead] [] w r3 w4) ∧ (r3 = none → SK w4 → (PS X k 198 128 [.ref 147, .int i1, .int i2, .int i3, pm_dead, pm_dead] [] w4 r w')) := by
        by_cases e : i1 = 0
        · rw [if_pos e] at q
          obtain ⟨r3, w4, q1, q2⟩ := q
          exact ⟨r3, w4, by rw [if_pos (show b = true by rw [hb, decide_eq_true e])]; exact q1, q2⟩
        · rw [if_neg e] at q
          obtain ⟨r3, w4, q1, q2⟩ := q
          exact ⟨r3, w4, by rw [if_neg (show ¬ b = true by rw [hb, decide_eq_false e]; exact Bool.false_ne_true)]; exact q1, q2⟩
      obtain ⟨r3, w4, q1, q2⟩ := q
      obtain ⟨z1, z2, z3, z4⟩ := RS_one hN h hc q1
      have hS4 := z2.2.2.2
      have q := q2 z1 hS4
      have brk : ∀ (I : Nat), BK w4 bs n I → ∃ k', PS X k' 198 160 [.ref 147, .int i1, .int i2, .int i3, pm_dead, pm_dead] [] w4 r w' := by
        intro I hB
        cases k with
        | zero => exact (PS_0 q).elim
        | succ k =>
          have q := U198_128 hS4 q
          rw [if_neg hB.2.1] at q
          exact ⟨k, q⟩
      rcases z4 with ⟨a1, a2⟩ | ⟨v, m, a1, a2, a3⟩ | ⟨v, m, a1, a2, a3, a4⟩
      · obtain ⟨k', q⟩ := brk i a2
        exact ⟨w4, k', 1, (true, 1, pl bs n i, c, g), z2, z3, Or.inr (Or.inl ⟨ck, a1, rfl⟩), a2.2.2.1, a2.2.2.2, fun _ => rfl, fun y => Bool.noConfusion y, fun y => absurd (show (1 : Int32) = 0 from y) (by decide +kernel), q⟩
      · obtain ⟨k', q⟩ := brk (tP bs n i (m + 1)) a3
        exact ⟨w4, k', 1, (true, 1, pl bs n (tP bs n i (m + 1)), c, g), z2, z3, Or.inr (Or.inr (Or.inl ⟨v, m, a1, a2, rfl⟩)), a3.2.2.1, a3.2.2.2, fun _ => rfl, fun y => Bool.noConfusion y, fun y => absurd (show (1 : Int32) = 0 from y) (by decide +kernel), q⟩
      · obtain ⟨w1, k', N, o, b1, b2, b3, b4⟩ := ih w4 _ _ _ _ _ a3 (fun hz => (a4 hz).1) (fun hz => (a4 hz).2) q
        exact ⟨w1, k', N + 1, o, FM_trans z2 b1, AF_trans z3 b2, Or.inr (Or.inr (Or.inr ⟨v, m, a1, a2, b3⟩)), b4⟩
end GJ
