/-! ===== a row's acts played: the class's load, the reference's runs ===== -/
section HHL
variable {X : pm_X} {k k2 : Nat} {w0 w w1 w2 w' : pm_W} {r r2 : Option Value} {p p1 p2 p3 p4 p5 i1 i2 i3 sl : Int32} {n i v j m u a P t s b Q x rr len o4 : Nat} {V : Nat → Int32} {Es : Nat → Nat → Int32} {s0 s1 s2 : SN}
theorem F74 (hS : SK w) (h : PS X k 74 0 [.ref 33, .ref v] [] w r w') : r = none ∧ FM [(33, 0), (33, 1), (33, 2)] [39] w w' ∧ gR w' 33 0 = v ∧ gI w' 33 1 = 0 ∧ gI w' 33 2 = 0 ∧ dA w' 33 = fun _ => 0 := by
  cases k with
  | zero => exact (PS_0 h).elim
  | succ k =>
    have h := U74_0 hS h _ rfl _ rfl _ rfl
    have ok : okS 33 = true := by decide +kernel
    have S1 : SK (sR w 33 0 v) := SK_sR hS
    have S2 : SK (sI (sR w 33 0 v) 33 1 0) := SK_sI S1
    have S3 : SK (sI (sI (sR w 33 0 v) 33 1 0) 33 2 0) := SK_sI S2
    obtain ⟨r3, _, _, _, _, a6, _, _, l6, _⟩ := okS_r S3 ok
    obtain ⟨_, _, _, f1, _, _, _, _, _, _⟩ := okS_r S1 ok
    obtain ⟨_, _, _, _, f2, _, _, _, _, _⟩ := okS_r S2 ok
    have z0 : sk_rf 33 0 = true := (okS_r hS ok).2.2.2.2.2.2.2.2.2.2.2
    have fm : FM [(33, 0), (33, 1), (33, 2)] [39] w (sI (sI (sR w 33 0 v) 33 1 0) 33 2 0) := FM_trans (FM_sR hS z0 (by simp)) (FM_trans (FM_sI S1 (by simp)) (FM_sI S2 (by simp)))
    rw [r3] at h
    obtain ⟨w5, S5, ⟨g1, g2, g3⟩, h⟩ := use_v (D := fun w5 => FM [] [39] (sI (sI (sR w 33 0 v) 33 1 0) 33 2 0) w5 ∧ (gA w5 39).length = 81 ∧ ∀ q, q < 81 → (gA w5 39).getD q 0 = 0) h (fun r1 w2 z => by
      obtain ⟨b1, b2, b3, b4⟩ := F20 S3 a6 (by rw [l6]; decide) z
      rw [l6] at b3 b4
      exact ⟨b1, b2.2.2.2, b2, b3, b4⟩)
    obtain ⟨h1, h2⟩ := h
    subst h2
    refine ⟨h1, FM_trans fm (FM_mono g1 (by simp) (by simp)), ?_, ?_, ?_, ?_⟩
    · rw [FM_r g1 (by simp)]
      rw [FM_r (fs := [(33, 1), (33, 2)]) (as := []) (FM_trans (FM_sI S1 (by simp)) (FM_sI S2 (by simp))) (by simp), gR_sR hS z0]
    · rw [FM_i g1 (by simp), gI_sI_ne (by omega), gI_sI f1]
    · rw [FM_i g1 (by simp), gI_sI f2]
    · funext q
      show (gA w' 39).getD q 0 = 0
      by_cases c : q < 81
      · exact g3 q c
      · rw [List.getD_eq_getElem?_getD, List.getElem?_eq_none (by omega)]; rfl
/-- from when on a run is unlawful -/
def HT (P : Nat) (V : Nat → Int32) (Es : Nat → Nat → Int32) (sl : Int32) (s0 : SN) (t : Nat) (h : Int32) : Prop := (h = -1 ∧ ∀ j, j < t → ∃ s' : SN, RN P V Es (j + 1) s0 s' ∧ lwS P sl s'.1) ∨ ∃ j, j < t ∧ h.toInt = j ∧ (∃ s' : SN, RN P V Es (j + 1) s0 s' ∧ ¬ lwS P sl s'.1) ∧ ∀ i, i < j → ∃ s' : SN, RN P V Es (i + 1) s0 s' ∧ lwS P sl s'.1
theorem L228 (hu : u ≤ 1) (hp : i1.toInt = (610 + 132 * u : Nat)) (hP : (al w0 (610 + 132 * u)).toInt = P) (hP9 : P ≤ 9) (hs : al w0 (612 + 132 * u) = sl) (hsl : 0 ≤ sl.toInt ∧ sl.toInt ≤ 9) (hr : i2.toInt = rr) (hr2 : rr ≤ 2) (hlen : (al w0 (874 + 272 * rr)).toInt = len) (hl30 : len ≤ 30) (hV : VW (fun k => al w0 (610 + 132 * u + k))) (hA : ∀ j, j < len → VAc (eL w0 (874 + 272 * rr + 1 + 9 * j))) (hW : WS P s0.2.2.2 (s0.1, s0.2.1)) (hN0 : s0.2.2.2 = 0) (h3 : i3.toInt = n) : ∀ (k t : Nat) (w : pm_W) (i4 : Int32) (s : SN), FM [(147, 14), (147, 15), (147, 16)] [152, 153] w0 w → i4.toInt = t → t ≤ n → t ≤ len → RN P (fun k => al w0 (610 + 132 * u + k)) (fun j => eL w0 (874 + 272 * rr + 1 + 9 * j)) t s0 s → RSt w s.1 s.2.1 s.2.2.1 s.2.2.2 → HT P (fun k => al w0 (610 + 132 * u + k)) (fun j => eL w0 (874 + 272 * rr + 1 + 9 * j)) sl s0 t (gI w 147 16) → PS X k 228 12 [.ref 147, .int i1, .int i2, .int i3, .int i4] [] w r w' → FM [(147, 14), (147, 15), (147, 16)] [152, 153] w0 w' ∧ ∃ (t : Nat) (s : SN) (z : Int32), z.toInt = t ∧ r = some (.int z) ∧ RN P (fun k => al w0 (610 + 132 * u + k)) (fun j => eL w0 (874 + 272 * rr + 1 + 9 * j)) t s0 s ∧ HT P (fun k => al w0 (610 + 132 * u + k)) (fun j => eL w0 (874 + 272 * rr + 1 + 9 * j)) sl s0 t (gI w' 147 16) ∧ (((t = n ∨ t = len) ∧ t ≤ n ∧ t ≤ len ∧ RSt w' s.1 s.2.1 s.2.2.1 s.2.2.2) ∨ (t < n ∧ t < len ∧ ACT P (fun k => al w0 (610 + 132 * u + k)) (eL w0 (874 + 272 * rr + 1 + 9 * t)) s.1 s.2.1 s.2.2.1 s.2.2.2 none)) := by
  intro k
  induction k with
  | zero => intro t w i4 s _ _ _ _ _ _ _ h; exact (PS_0 h).elim
  | succ k ih =>
    intro t w i4 s fm h4 ht htl hRN hR hH h
    have hS : SK w := fm.2.2.2
    have eal : ∀ q, al w q = al w0 q := fun q => by unfold al; rw [FM_a fm (by simp)]
    have h := U228_12 hS h
    by_cases c : i3 ≤ i4
    · rw [if_pos c] at h
      rw [Int32.le_iff_toInt_le, h3, h4] at c
      rw [h.2]
      exact ⟨fm, t, s, i4, h4, h.1, hRN, hH, Or.inl ⟨Or.inl (by omega), ht, htl, hR⟩⟩
    · rw [if_neg c] at h
      rw [Int32.le_iff_toInt_le, h3, h4] at c
      have h := use_p hS h (fun _ _ y => F217r hS y)
      obtain ⟨_, h⟩ := h
      have er := plR hr hr2
      rw [aG_n (m := 874 + 272 * rr) er] at h
      have e0 : (gA w 148).getD (874 + 272 * rr) 0 = al w0 (874 + 272 * rr) := eal _
      rw [e0] at h
      by_cases c2 : al w0 (874 + 272 * rr) ≤ i4
      · rw [if_pos c2] at h
        rw [Int32.le_iff_toInt_le, hlen, h4] at c2
        rw [h.2]
        exact ⟨fm, t, s, i4, h4, h.1, hRN, hH, Or.inl ⟨Or.inr (by omega), ht, htl, hR⟩⟩
      · rw [if_neg c2] at h
        rw [Int32.le_iff_toInt_le, hlen, h4] at c2
        have h := use_p hS h (fun _ _ y => F217r hS y)
        obtain ⟨q1, w8, z, h⟩ := h
        obtain ⟨a1, a2⟩ := RN_W hP9 hV hW t s (fun j hj => hA j (by omega)) hRN
        have eV : (fun k => al w (610 + 132 * u + k)) = fun k => al w0 (610 + 132 * u + k) := by funext q; exact eal _
        have eE : eL w (874 + 272 * rr + 1 + 9 * t) = eL w0 (874 + 272 * rr + 1 + 9 * t) := by funext q; exact eal _
        obtain ⟨f2, o, act, alt⟩ := F230 (Q := 874 + 272 * rr + 1 + 9 * t) hS hu hp (by rw [eal]; exact hP) hP9 (by rw [zi_add (zi_add er o32 (by omega) (by omega)) (zi_mul nine32 h4 (by omega) (by omega)) (by omega) (by omega)]; omega) (by omega) hR (by omega) a1 (by rw [eE]; exact hA t (by omega)) z
        rw [eV, eE] at act
        have fm2 : FM [(147, 14), (147, 15), (147, 16)] [152, 153] w0 w8 := FM_trans fm (FM_mono f2 (by decide) (by decide))
        have e16 : gI w8 147 16 = gI w 147 16 := FM_i f2 (by decide)
        rcases alt with ⟨o0, q0⟩ | ⟨D', G', M', N', o1, q1', hR'⟩
        · have h := h _ q0 f2.2.2.2
          rw [if_pos rfl] at h
          rw [h.2]
          exact ⟨fm2, t, s, i4, h4, h.1, hRN, by rw [e16]; exact hH, Or.inr ⟨by omega, by omega, by rw [← o0]; exact act⟩⟩
        · have h := h _ q1' f2.2.2.2
          rw [if_neg (by decide +kernel)] at h
          have hRN' : RN P (fun k => al w0 (610 + 132 * u + k)) (fun j => eL w0 (874 + 272 * rr + 1 + 9 * j)) (t + 1) s0 (D', G', M', N') := ⟨s, hRN, by rw [← o1]; exact act⟩
          have i41 : (i4 + 1).toInt = (t + 1 : Nat) := by rw [zi_inc (n := 40) (by omega) (by omega), h4]; rfl
          by_cases c3 : 0 ≤ gI w8 147 16
          · rw [if_pos c3] at h
            rw [Int32.le_iff_toInt_le, z32, e16] at c3
            refine ih (t + 1) w8 (i4 + 1) (D', G', M', N') fm2 i41 (by omega) (by omega) hRN' hR' ?_ h
            rw [e16]
            rcases hH with ⟨y1, _⟩ | ⟨j, y1, y2, y3, y4⟩
            · rw [y1] at c3; exact absurd c3 (by decide +kernel)
            · exact Or.inr ⟨j, by omega, y2, y3, y4⟩
          · rw [if_neg c3] at h
            rw [Int32.le_iff_toInt_le, z32, e16] at c3
            have hH' : gI w 147 16 = -1 ∧ ∀ j, j < t → ∃ s' : SN, RN P (fun k => al w0 (610 + 132 * u + k)) (fun j => eL w0 (874 + 272 * rr + 1 + 9 * j)) (j + 1) s0 s' ∧ lwS P sl s'.1 := by
              rcases hH with y | ⟨j, y1, y2, y3, y4⟩
              · exact y
              · omega
            obtain ⟨q2, w11, z2, hq⟩ := h
            have S8 : SK w8 := f2.2.2.2
            have eal8 : ∀ q, al w8 q = al w0 q := fun q => by unfold al; rw [FM_a fm2 (by simp)]
            obtain ⟨b1, b2⟩ := RN_W hP9 hV hW (t + 1) _ (fun j hj => hA j (by omega)) hRN'
            have hd : dR w8 = D' := hR'.1
            obtain ⟨ew, alt⟩ := F241 S8 hu hp (by rw [eal8]; exact hP) hP9 (by rw [eal8]; exact hs) hsl (by rw [hd]; exact b1.1.1) z2
            subst ew
            rw [hd] at alt
            rcases alt with ⟨y1, y2⟩ | ⟨y1, y2⟩
            · have h := hq _ y2 S8
              rw [if_neg (by decide +kernel)] at h
              refine ih (t + 1) _ (i4 + 1) (D', G', M', N') fm2 i41 (by omega) (by omega) hRN' hR' ?_ h
              rw [e16]
              refine Or.inl ⟨hH'.1, fun j hj => ?_⟩
              by_cases e : j = t
              · rw [e]; exact ⟨_, hRN', y1⟩
              · exact hH'.2 j (by omega)
            · have h := hq _ y2 S8
              rw [if_pos rfl] at h
              have h := h _ rfl
              have F16 : isF w11 147 16 := SK_isF S8 (by decide +kernel)
              refine ih (t + 1) _ (i4 + 1) (D', G', M', N') (FM_trans fm2 (FM_sI S8 (by simp))) i41 (by omega) (by omega) hRN' ?_ ?_ h
              · obtain ⟨x1, x2, x3, x4⟩ := hR'
                refine ⟨?_, ?_, ?_, ?_⟩
                · rw [← x1]; funext q; unfold dR; rw [gA_sI]
                · rw [← x2]; funext q; unfold gRr; rw [gA_sI]
                · rw [gI_sI_ne (by omega)]; exact x3
                · rw [gI_sI_ne (by omega)]; exact x4
              · rw [gI_sI F16]
                exact Or.inr ⟨t, by omega, h4, ⟨_, hRN', y1⟩, fun i hi => hH'.2 i hi⟩
end HHL
