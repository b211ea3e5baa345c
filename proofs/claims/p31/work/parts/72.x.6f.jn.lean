/-! ===== find, asked on both sides ===== -/
section JNA
variable {X : pm_X} {k k2 : Nat} {w0 w w1 w2 w3 w4 w5 w6 w8 wj w' : pm_W} {r r2 q0 q1 q2 : Option Value} {p1 p2 p3 p4 p5 p6 i1 i2 i3 i4 i5 i6 i7 i8 i9 z z1 z2 so x : Int32} {i v j m c u P t s b d p q fx Q I J K T W N κ bm n : Nat} {l l6 l10 : Int64} {e g y : Int} {fe rk : Nat → Int} {E : Nat → Nat} {u9 u10 u12 : Value} {V : Nat → Nat → Prop} {R : Nat → Nat → Int} {a : Nat → Int32} {s1 t1 t2 : SN}
def okSo (x : Int32) : Prop := x = 0 ∨ x = 1 ∨ x = 2
theorem okSo_i : okSo x ↔ 0 ≤ x.toInt ∧ x.toInt ≤ 2 := by
  unfold okSo
  constructor
  · rintro (e | e | e)
    · rw [e, z32]; omega
    · rw [e, o32]; omega
    · rw [e, two32]; omega
  · rintro ⟨h1, h2⟩
    have c : x.toInt = 0 ∨ x.toInt = 1 ∨ x.toInt = 2 := by omega
    rcases c with e | e | e
    · exact Or.inl (Int32.toInt_inj.mp (by rw [e, z32]))
    · exact Or.inr (Or.inl (Int32.toInt_inj.mp (by rw [e, o32])))
    · exact Or.inr (Or.inr (Int32.toInt_inj.mp (by rw [e, two32])))
theorem F132 (hS : SK w) (h : PS X k 132 0 [.int p1] [] w r w') : w' = w ∧ ((okSo p1 ∧ r = some (.int 1)) ∨ (¬ okSo p1 ∧ r = some (.int 0))) := by
  unfold okSo
  cases k with
  | zero => exact (PS_0 h).elim
  | succ k =>
    have h := U132_0 hS h
    by_cases c0 : p1 = 0
    · rw [if_pos c0] at h
      exact ⟨h.2, Or.inl ⟨Or.inl c0, h.1⟩⟩
    · rw [if_neg c0] at h
      by_cases c1 : p1 = 1
      · rw [if_pos c1] at h
        exact ⟨h.2, Or.inl ⟨Or.inr (Or.inl c1), h.1⟩⟩
      · rw [if_neg c1] at h
        by_cases c2 : p1 = 2
        · rw [if_pos c2] at h
          exact ⟨h.2, Or.inl ⟨Or.inr (Or.inr c2), h.1⟩⟩
        · rw [if_neg c2] at h
          exact ⟨h.2, Or.inr ⟨fun q => by rcases q with q | q | q <;> contradiction, h.1⟩⟩
/-- the rings for a want of the loaded state -/
abbrev VWt (a : Nat → Int32) (u κ : Nat) (s : SN) : Nat → Nat → Prop := VRg (fun i j => (rmI (Vof a u) s.1 i j).toInt) (Pof a u) (wNf a u κ) (wAf a u κ) (wBf a u κ)
theorem F131 (h3 : RL3 w) (h : PS X k 131 0 [.ref 0, .int p1, .int p2, .int p3, .int p4, .int p5] [] w r w') : (¬ okSo p5 ∧ r = some (.int 0) ∧ w' = w) ∨ (okSo p5 ∧ ∃ (k' : Nat) (q1 : Option Value) (w4 : pm_W), PS X k' 98 0 [.ref 0, .int p1, .int p2, .int p3, pm_dead, pm_dead, pm_dead] [] w q1 w4 ∧ ((q1 = some (.int 0) ∧ r = some (.int 0) ∧ w' = w4) ∨ (q1 = some (.int 1) ∧ ∃ (u : Nat) (s1 : SN), LDR (al w) p1 p2 p3 (gAr w 33) u s1 ∧ CSt w4 33 (5 + 5 * u) (Pof (al w) u) s1.1 s1.2.1 s1.2.2.1 s1.2.2.2 ∧ ((¬ (0 ≤ p4.toInt ∧ p4.toInt < (Wof (al w) u : Nat)) ∧ r = some (.int 0) ∧ w' = w4) ∨ ∃ κ : Nat, p4.toInt = κ ∧ κ < Wof (al w) u ∧ FM slF [65, 66, 67] w4 w' ∧ SBw w' (Pof (al w) u) p5 (feF (al w) u) (rkF (al w) u) (wAf (al w) u κ) (wBf (al w) u κ) (VWt (al w) u κ s1) ∧ (((gI w' 55 6).toInt = 0 ∧ r = some (.int 0)) ∨ (0 < (gI w' 55 6).toInt ∧ r = some (.int 1))))))) := by
  have hS := h3.1.1
  cases k with
  | zero => exact (PS_0 h).elim
  | succ k =>
    obtain ⟨qa, wa, ya, h⟩ := U131_0 hS h
    obtain ⟨ea, alt⟩ := F132 hS ya
    rcases alt with ⟨c, ra⟩ | ⟨c, ra⟩
    · have h := h _ ra (by rw [ea]; exact hS)
      rw [if_neg (by decide +kernel), ea] at h
      refine Or.inr ⟨c, ?_⟩
      obtain ⟨q1, w4, zz, h⟩ := h
      obtain ⟨f1, alt⟩ := F98 h3 zz
      have S4 : SK w4 := f1.2.2.2
      refine ⟨k, q1, w4, zz, ?_⟩
      rcases alt with ⟨u, s1, a1, a2, a3⟩ | ⟨a1, _⟩
      · have h := h _ a1 S4
        rw [if_neg (by decide +kernel)] at h
        refine Or.inr ⟨a1, u, s1, a2, a3, ?_⟩
        have hu := a2.2.1
        obtain ⟨x1, x2, x3⟩ := VA_w h3.2 hu
        obtain ⟨c1, c2, c3, c4⟩ := CVL h3 hu f1 a3
        obtain ⟨u1, g0, gw, _⟩ := VT hS h3.1.2.1 hu
        rw [c3] at h
        have h := use_p S4 h (fun _ _ y => F64 (P := Wof (al w) u) S4 (by rw [FM_i f1 (by simp <;> omega), gw]; exact x1) y)
        by_cases cw : 0 ≤ p4.toInt ∧ p4.toInt < (Wof (al w) u : Nat)
        · have h := ifb_t cw h
          obtain ⟨κ, hκ⟩ : ∃ κ : Nat, p4.toInt = κ := ⟨p4.toInt.toNat, by omega⟩
          obtain ⟨q10, w11, y11, h⟩ := h
          obtain ⟨b1, b2, b3⟩ := F133 h3 f1 hu a3 hκ (by omega) y11
          have S11 := b1.2.2.2
          refine Or.inr ⟨κ, hκ, by omega, ?_⟩
          rcases b3 with ⟨g1, g2⟩ | ⟨g1, g2⟩
          · have h := h _ g2 S11
            rw [h.2]
            exact ⟨b1, b2, Or.inl ⟨g1, h.1⟩⟩
          · have h := h _ g2 S11
            rw [h.2]
            exact ⟨b1, b2, Or.inr ⟨g1, h.1⟩⟩
        · have h := ifb_f cw h
          exact Or.inl ⟨cw, h.1, h.2⟩
      · have h := h _ a1 S4
        rw [if_pos rfl] at h
        exact Or.inl ⟨a1, h.1, h.2⟩
    · have h := h _ ra (by rw [ea]; exact hS)
      rw [if_pos rfl, ea] at h
      exact Or.inl ⟨c, h.1, h.2⟩
theorem F266 (hS : SK w) (hV : VAa (al w)) (hu : u < (al w 0).toInt.toNat) (u1 : u ≤ 1) (hp : p1.toInt = (610 + 132 * u : Nat)) (hκ : p2.toInt = κ) (hκ7 : κ < Wof (al w) u) (hso : okSo p3) (hfe : ∀ x : Nat, x < 9 → fe x = if (x : Int) = p4.toInt then p5.toInt else (al w (694 + 132 * u + x)).toInt) (hfb : ∀ x, x < Pof (al w) u → 0 ≤ fe x ∧ fe x ≤ 1000) (h : PS X k 266 0 [.ref 147, .int p1, .int p2, .int p3, .int p4, .int p5, pm_dead, pm_dead, pm_dead, pm_dead, pm_dead, pm_dead, pm_dead] [] w r w') : FM rrF [158, 159] w w' ∧ SBr w' (Pof (al w) u) p3 fe (rkF (al w) u) (wAf (al w) u κ) (wBf (al w) u κ) (VRg (rmA w u) (Pof (al w) u) (wNf (al w) u κ) (wAf (al w) u κ) (wBf (al w) u κ)) ∧ (((gI w' 147 23).toInt = 0 ∧ r = some (.int 0)) ∨ (0 < (gI w' 147 23).toInt ∧ r = some (.int 1))) := by
  obtain ⟨v1, v1', v3, v2, v4⟩ := VA_v hV hu
  obtain ⟨x1, x2, x3⟩ := VA_w hV hu
  obtain ⟨fb, rb⟩ := VA_f hV hu
  obtain ⟨y0, y0', y1, y1', y01, y2, y2', _⟩ := x3 κ hκ7
  cases k with
  | zero => exact (PS_0 h).elim
  | succ k =>
    have h := U266_0 hS h _ rfl
    have f1 : FM rrF [158, 159] w (sI w 147 23 0) := FM_sI hS (by decide)
    have g1 : gI (sI w 147 23 0) 147 23 = 0 := gI_sI (SK_isF hS (by decide +kernel))
    have e1 : al (sI w 147 23 0) = al w := al_FM f1 (by decide)
    have er := rmA_fm (u := u) f1 (by decide) (by decide)
    have em : ∀ m c, ¬ VBf (rmA (sI w 147 23 0) u) (Pof (al w) u) (wNf (al w) u κ) (wAf (al w) u κ) (wBf (al w) u κ) 2 0 m c := fun m c q => by
      have := q.1.1
      have := q.2
      omega
    obtain ⟨b1, b2, b3⟩ := (F266_l (fe := fe) (rk := rkF (al w) u) (a := wAf (al w) u κ) (b := wBf (al w) u κ) (y := wNf (al w) u κ) f1.2.2.2 hp u1 (by rw [e1]; exact v3) v1 hκ (by omega) (by rw [e1]; unfold wAf; omega) (by rw [e1]; unfold wBf; omega) (by rw [e1]; rfl) (by unfold wAf; omega) (by unfold wBf; omega) hso (by rw [e1]; exact hfe) (by rw [e1]; exact fun x _ => rfl) hfb (fun x hx => rb x (by omega)) k).1 _ 2 0 2 _ _ _ (FM_refl f1.2.2.2) two32 (Nat.le_refl 2) (by decide) (Or.inl ⟨by rw [g1, z32], em⟩) (fun m c q => absurd q.1 (em m c)) h
    rw [er] at b2
    exact ⟨FM_trans f1 b1, b2, b3⟩
/-- what both found -/
theorem both (hw : SBw w P so fe rk b d V) (hr : SBr w2 P so fe rk b d V) : ((gI w 55 6).toInt = 0 ∧ (gI w2 147 23).toInt = 0) ∨ ∃ m c : Nat, (2 ≤ m ∧ m ≤ 6) ∧ (gI w 55 6).toInt = m ∧ (gI w2 147 23).toInt = m ∧ (∀ i, i < m → ((gA w 67).getD i 0).toInt = elN b d m c i ∧ elN b d m c i < P) ∧ (∀ i, i < m → ((gA w2 159).getD i 0).toInt = elN b d m c i) ∧ (gI w 55 7).toInt = cstN fe b d m c m ∧ (gL w 55 8).toInt = chN rk b d m c m := by
  rcases hw with ⟨a1, a2⟩ | ⟨m, c, a1, a2, a3, a4, a5, a6⟩
  · rcases hr with ⟨b1, b2⟩ | ⟨m', c', b1, b2, b3, b4⟩
    · exact Or.inl ⟨a1, b1⟩
    · exact absurd b1.1 (a2 m' c')
  · rcases hr with ⟨b1, b2⟩ | ⟨m', c', b1, b2, b3, b4⟩
    · exact absurd a1.1 (b2 m c)
    · obtain ⟨e1, e2⟩ := BSt_uq a1 b1
      rw [← e1, ← e2] at b4
      exact Or.inr ⟨m, c, a2, a3, by rw [b3, e1], a4, fun i hi => (b4 i hi).1, a5, a6⟩
end JNA
