/-! ===== what is behind n acts: the reference's side ===== -/
section HJS
variable {X : pm_X} {k k2 : Nat} {w0 w w1 w2 w' : pm_W} {r r2 : Option Value} {p p1 p2 p3 p4 p5 i1 i2 i3 sl : Int32} {n i v j m u u2 P t s b Q x rr len : Nat} {a V G G1 G2 : Nat → Int32} {Es : Nat → Nat → Int32} {s0 s1 s2 : SN}
theorem F229_2 : ∀ (k t : Nat) (w : pm_W) (i1 : Int32), FM [] [152] w0 w → i1.toInt = t → t ≤ 81 → (∀ q, q < t → dR w q = 0) → PS X k 229 2 [.ref 147, .int i1] [] w r w' → r = none ∧ FM [(147, 14), (147, 15)] [152] w0 w' ∧ dR w' = (fun _ => 0) ∧ gI w' 147 14 = 0 ∧ gI w' 147 15 = 0 := by
  intro k
  induction k with
  | zero => intro t w i1 _ _ _ _ h; exact (PS_0 h).elim
  | succ k ih =>
    intro t w i1 fm h1 ht hz h
    have hS : SK w := fm.2.2.2
    have h := U229_2 hS h
    by_cases c : 81 ≤ i1
    · rw [if_pos c] at h
      rw [Int32.le_iff_toInt_le, h1, show (81 : Int32).toInt = 81 from by decide +kernel] at c
      obtain ⟨x1, x2⟩ := h _ rfl _ rfl
      have S1 : SK (sI w 147 14 0) := SK_sI hS
      rw [x2]
      refine ⟨x1, FM_trans (FM_mono fm (by simp) (by simp)) (FM_trans (FM_sI hS (by simp)) (FM_sI S1 (by simp))), ?_, ?_, ?_⟩
      · funext q
        unfold dR
        rw [gA_sI, gA_sI]
        by_cases d : q < 81
        · exact hz q (by omega)
        · exact dR_81 hS (by omega)
      · rw [gI_sI_ne (by omega), gI_sI (SK_isF hS (by decide +kernel))]
      · rw [gI_sI (SK_isF S1 (by decide +kernel))]
    · rw [if_neg c] at h
      rw [Int32.le_iff_toInt_le, h1, show (81 : Int32).toInt = 81 from by decide +kernel] at c
      have h := h.2 _ rfl
      refine ih (t + 1) _ (i1 + 1) (FM_trans fm (FM_aS hS (List.mem_singleton_self _))) (by rw [zi_inc (n := 100) (by omega) (by omega), h1]; rfl) (by omega) (fun q hq => ?_) h
      rw [dR_aS hS h1 (by omega)]
      unfold updc
      by_cases e : q = t
      · rw [if_pos e]
      · rw [if_neg e]; exact hz q (by omega)
theorem F229 (hS : SK w) (h : PS X k 229 0 [.ref 147, pm_dead] [] w r w') : r = none ∧ FM [(147, 14), (147, 15)] [152] w w' ∧ dR w' = (fun _ => 0) ∧ gI w' 147 14 = 0 ∧ gI w' 147 15 = 0 := by
  cases k with
  | zero => exact (PS_0 h).elim
  | succ k => exact F229_2 k 0 w 0 (FM_refl hS) z32 (Nat.zero_le _) (fun q hq => absurd hq (Nat.not_lt_zero q)) (U229_0 hS h)
theorem F228 (hS : SK w) (hA : RA (al w)) (hV : VAa (al w)) (hu : u < (al w 0).toInt.toNat) (hp : p1.toInt = (610 + 132 * u : Nat)) (hr : p2.toInt = rr) (hrr : rr < (al w 1).toInt.toNat) (hn : p3.toInt = n) (h : PS X k 228 0 [.ref 147, .int p1, .int p2, .int p3, pm_dead] [] w r w') : FM [(147, 14), (147, 15), (147, 16)] [152, 153] w w' ∧ ∃ (t : Nat) (s : SN) (z : Int32), z.toInt = t ∧ r = some (.int z) ∧ RN (Pof (al w) u) (Vof (al w) u) (Eof (al w) rr) t (s00 (gRr w)) s ∧ HT (Pof (al w) u) (Vof (al w) u) (Eof (al w) rr) (al w (612 + 132 * u)) (s00 (gRr w)) t (gI w' 147 16) ∧ (((t = n ∨ t = (al w (874 + 272 * rr)).toInt.toNat) ∧ t ≤ n ∧ t ≤ (al w (874 + 272 * rr)).toInt.toNat ∧ RSt w' s.1 s.2.1 s.2.2.1 s.2.2.2) ∨ (t < n ∧ t < (al w (874 + 272 * rr)).toInt.toNat ∧ ACT (Pof (al w) u) (Vof (al w) u) (Eof (al w) rr t) s.1 s.2.1 s.2.2.1 s.2.2.2 none)) := by
  obtain ⟨r1, r2, r3, r4, _, _, r7⟩ := hA
  obtain ⟨b1, b2⟩ := r7 rr hrr
  obtain ⟨v1, _, v3, v2, v4⟩ := VA_v hV hu
  cases k with
  | zero => exact (PS_0 h).elim
  | succ k =>
    have h := U228_0 hS h
    obtain ⟨w2, S2, ⟨f2, d1, d2, d3⟩, h⟩ := use_v (D := fun w2 => FM [(147, 14), (147, 15)] [152] w w2 ∧ dR w2 = (fun _ => 0) ∧ gI w2 147 14 = 0 ∧ gI w2 147 15 = 0) h (fun r1 w2 z => by
      obtain ⟨y1, y2, y3⟩ := F229 hS z
      exact ⟨y1, y2.2.2.2, y2, y3⟩)
    have h := h _ rfl
    have f3 : FM [(147, 14), (147, 15), (147, 16)] [152, 153] w (sI w2 147 16 (-1)) := FM_trans (FM_mono f2 (by simp) (by simp)) (FM_sI S2 (by simp))
    have hR : RSt (sI w2 147 16 (-1)) (fun _ => 0) (gRr w) 0 0 := by
      refine ⟨?_, ?_, ?_, ?_⟩
      · rw [← d1]; funext q; unfold dR; rw [gA_sI]
      · funext q; unfold gRr; rw [gA_sI, FM_a f2 (by simp)]
      · rw [gI_sI_ne (by omega)]; exact d3
      · rw [gI_sI_ne (by omega), d2]; exact z32
    exact L228 (s0 := s00 (gRr w)) (by omega) hp v3 v1 rfl v4 hr (by omega) (show (al w (874 + 272 * rr)).toInt = ((al w (874 + 272 * rr)).toInt.toNat : Nat) by omega) (by omega) v2 (fun j hj => VA_e hV hrr hj) WS_00 rfl hn k 0 _ 0 (s00 (gRr w)) f3 z32 (Nat.zero_le _) (Nat.zero_le _) rfl hR (Or.inl ⟨gI_sI (SK_isF S2 (by decide +kernel)), fun j hj => absurd hj (Nat.not_lt_zero j)⟩) h
end HJS
