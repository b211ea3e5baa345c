/-! ===== a word is known by the number that its letters make ===== -/
section FG
variable {bs : Nat → Int32} {s e t : Nat}
theorem wdV_s (h : t < 6) : wdV bs s (t + 1) = 32 * wdV bs s t + (bs (s + t)).toInt - 96 := if_pos h
theorem wdV_0 : wdV bs s 0 = 0 := rfl
/-- the verb's code, the number of its letters -/
def vC (v : Nat) : Int32 := match v with
  | 0 => 11
  | 1 => 12
  | 2 => 13
  | 3 => 14
  | 4 => 15
  | 5 => 16
  | 6 => 1
  | 7 => 2
  | 8 => 3
  | 9 => 4
  | 10 => 5
  | 11 => 6
  | _ => 7
def vN (v : Nat) : Int := match v with
  | 0 => 16101
  | 1 => 16441
  | 2 => 599495
  | 3 => 659105125
  | 4 => 197932
  | 5 => 14137992
  | 6 => 542622085
  | 7 => 769604
  | 8 => 1420
  | 9 => 6309
  | 10 => 599659
  | 11 => 20317291
  | _ => 755156
theorem wm_0 (h1 : 1 ≤ t) (h6 : t ≤ 6) (hl : ∀ j, j < t → isLt (bs (s + j)) = true) : wdV bs s t = 16101 ↔ t = 3 ∧ (bs (s + 0)).toInt = 111 ∧ (bs (s + 1)).toInt = 119 ∧ (bs (s + 2)).toInt = 101 := by
  have c : t = 1 ∨ t = 2 ∨ t = 3 ∨ t = 4 ∨ t = 5 ∨ t = 6 := by omega
  rcases c with rfl | rfl | rfl | rfl | rfl | rfl
  · have b0 := isLt_b (hl 0 (by omega))
    rw [wdV_s (t := 0) (by decide), wdV_0]
    omega
  · have b0 := isLt_b (hl 0 (by omega))
    have b1 := isLt_b (hl 1 (by omega))
    rw [wdV_s (t := 1) (by decide), wdV_s (t := 0) (by decide), wdV_0]
    omega
  · have b0 := isLt_b (hl 0 (by omega))
    have b1 := isLt_b (hl 1 (by omega))
    have b2 := isLt_b (hl 2 (by omega))
    rw [wdV_s (t := 2) (by decide), wdV_s (t := 1) (by decide), wdV_s (t := 0) (by decide), wdV_0]
    omega
  · have b0 := isLt_b (hl 0 (by omega))
    have b1 := isLt_b (hl 1 (by omega))
    have b2 := isLt_b (hl 2 (by omega))
    have b3 := isLt_b (hl 3 (by omega))
    rw [wdV_s (t := 3) (by decide), wdV_s (t := 2) (by decide), wdV_s (t := 1) (by decide), wdV_s (t := 0) (by decide), wdV_0]
    omega
  · have b0 := isLt_b (hl 0 (by omega))
    have b1 := isLt_b (hl 1 (by omega))
    have b2 := isLt_b (hl 2 (by omega))
    have b3 := isLt_b (hl 3 (by omega))
    have b4 := isLt_b (hl 4 (by omega))
    rw [wdV_s (t := 4) (by decide), wdV_s (t := 3) (by decide), wdV_s (t := 2) (by decide), wdV_s (t := 1) (by decide), wdV_s (t := 0) (by decide), wdV_0]
    omega
  · have b0 := isLt_b (hl 0 (by omega))
    have b1 := isLt_b (hl 1 (by omega))
    have b2 := isLt_b (hl 2 (by omega))
    have b3 := isLt_b (hl 3 (by omega))
    have b4 := isLt_b (hl 4 (by omega))
    have b5 := isLt_b (hl 5 (by omega))
    rw [wdV_s (t := 5) (by decide), wdV_s (t := 4) (by decide), wdV_s (t := 3) (by decide), wdV_s (t := 2) (by decide), wdV_s (t := 1) (by decide), wdV_s (t := 0) (by decide), wdV_0]
    omega
theorem wm_1 (h1 : 1 ≤ t) (h6 : t ≤ 6) (hl : ∀ j, j < t → isLt (bs (s + j)) = true) : wdV bs s t = 16441 ↔ t = 3 ∧ (bs (s + 0)).toInt = 112 ∧ (bs (s + 1)).toInt = 97 ∧ (bs (s + 2)).toInt = 121 := by
  have c : t = 1 ∨ t = 2 ∨ t = 3 ∨ t = 4 ∨ t = 5 ∨ t = 6 := by omega
  rcases c with rfl | rfl | rfl | rfl | rfl | rfl
  · have b0 := isLt_b (hl 0 (by omega))
    rw [wdV_s (t := 0) (by decide), wdV_0]
    omega
  · have b0 := isLt_b (hl 0 (by omega))
    have b1 := isLt_b (hl 1 (by omega))
    rw [wdV_s (t := 1) (by decide), wdV_s (t := 0) (by decide), wdV_0]
    omega
  · have b0 := isLt_b (hl 0 (by omega))
    have b1 := isLt_b (hl 1 (by omega))
    have b2 := isLt_b (hl 2 (by omega))
    rw [wdV_s (t := 2) (by decide), wdV_s (t := 1) (by decide), wdV_s (t := 0) (by decide), wdV_0]
    omega
  · have b0 := isLt_b (hl 0 (by omega))
    have b1 := isLt_b (hl 1 (by omega))
    have b2 := isLt_b (hl 2 (by omega))
    have b3 := isLt_b (hl 3 (by omega))
    rw [wdV_s (t := 3) (by decide), wdV_s (t := 2) (by decide), wdV_s (t := 1) (by decide), wdV_s (t := 0) (by decide), wdV_0]
    omega
  · have b0 := isLt_b (hl 0 (by omega))
    have b1 := isLt_b (hl 1 (by omega))
    have b2 := isLt_b (hl 2 (by omega))
    have b3 := isLt_b (hl 3 (by omega))
    have b4 := isLt_b (hl 4 (by omega))
    rw [wdV_s (t := 4) (by decide), wdV_s (t := 3) (by decide), wdV_s (t := 2) (by decide), wdV_s (t := 1) (by decide), wdV_s (t := 0) (by decide), wdV_0]
    omega
  · have b0 := isLt_b (hl 0 (by omega))
    have b1 := isLt_b (hl 1 (by omega))
    have b2 := isLt_b (hl 2 (by omega))
    have b3 := isLt_b (hl 3 (by omega))
    have b4 := isLt_b (hl 4 (by omega))
    have b5 := isLt_b (hl 5 (by omega))
    rw [wdV_s (t := 5) (by decide), wdV_s (t := 4) (by decide), wdV_s (t := 3) (by decide), wdV_s (t := 2) (by decide), wdV_s (t := 1) (by decide), wdV_s (t := 0) (by decide), wdV_0]
    omega
theorem wm_2 (h1 : 1 ≤ t) (h6 : t ≤ 6) (hl : ∀ j, j < t → isLt (bs (s + j)) = true) : wdV bs s t = 599495 ↔ t = 4 ∧ (bs (s + 0)).toInt = 114 ∧ (bs (s + 1)).toInt = 105 ∧ (bs (s + 2)).toInt = 110 ∧ (bs (s + 3)).toInt = 103 := by
  have c : t = 1 ∨ t = 2 ∨ t = 3 ∨ t = 4 ∨ t = 5 ∨ t = 6 := by omega
  rcases c with rfl | rfl | rfl | rfl | rfl | rfl
  · have b0 := isLt_b (hl 0 (by omega))
    rw [wdV_s (t := 0) (by decide), wdV_0]
    omega
  · have b0 := isLt_b (hl 0 (by omega))
    have b1 := isLt_b (hl 1 (by omega))
    rw [wdV_s (t := 1) (by decide), wdV_s (t := 0) (by decide), wdV_0]
    omega
  · have b0 := isLt_b (hl 0 (by omega))
    have b1 := isLt_b (hl 1 (by omega))
    have b2 := isLt_b (hl 2 (by omega))
    rw [wdV_s (t := 2) (by decide), wdV_s (t := 1) (by decide), wdV_s (t := 0) (by decide), wdV_0]
    omega
  · have b0 := isLt_b (hl 0 (by omega))
    have b1 := isLt_b (hl 1 (by omega))
    have b2 := isLt_b (hl 2 (by omega))
    have b3 := isLt_b (hl 3 (by omega))
    rw [wdV_s (t := 3) (by decide), wdV_s (t := 2) (by decide), wdV_s (t := 1) (by decide), wdV_s (t := 0) (by decide), wdV_0]
    omega
  · have b0 := isLt_b (hl 0 (by omega))
    have b1 := isLt_b (hl 1 (by omega))
    have b2 := isLt_b (hl 2 (by omega))
    have b3 := isLt_b (hl 3 (by omega))
    have b4 := isLt_b (hl 4 (by omega))
    rw [wdV_s (t := 4) (by decide), wdV_s (t := 3) (by decide), wdV_s (t := 2) (by decide), wdV_s (t := 1) (by decide), wdV_s (t := 0) (by decide), wdV_0]
    omega
  · have b0 := isLt_b (hl 0 (by omega))
    have b1 := isLt_b (hl 1 (by omega))
    have b2 := isLt_b (hl 2 (by omega))
    have b3 := isLt_b (hl 3 (by omega))
    have b4 := isLt_b (hl 4 (by omega))
    have b5 := isLt_b (hl 5 (by omega))
    rw [wdV_s (t := 5) (by decide), wdV_s (t := 4) (by decide), wdV_s (t := 3) (by decide), wdV_s (t := 2) (by decide), wdV_s (t := 1) (by decide), wdV_s (t := 0) (by decide), wdV_0]
    omega
theorem wm_3 (h1 : 1 ≤ t) (h6 : t ≤ 6) (hl : ∀ j, j < t → isLt (bs (s + j)) = true) : wdV bs s t = 659105125 ↔ t = 6 ∧ (bs (s + 0)).toInt = 115 ∧ (bs (s + 1)).toInt = 116 ∧ (bs (s + 2)).toInt = 114 ∧ (bs (s + 3)).toInt = 105 ∧ (bs (s + 4)).toInt = 107 ∧ (bs (s + 5)).toInt = 101 := by
  have c : t = 1 ∨ t = 2 ∨ t = 3 ∨ t = 4 ∨ t = 5 ∨ t = 6 := by omega
  rcases c with rfl | rfl | rfl | rfl | rfl | rfl
  · have b0 := isLt_b (hl 0 (by omega))
    rw [wdV_s (t := 0) (by decide), wdV_0]
    omega
  · have b0 := isLt_b (hl 0 (by omega))
    have b1 := isLt_b (hl 1 (by omega))
    rw [wdV_s (t := 1) (by decide), wdV_s (t := 0) (by decide), wdV_0]
    omega
  · have b0 := isLt_b (hl 0 (by omega))
    have b1 := isLt_b (hl 1 (by omega))
    have b2 := isLt_b (hl 2 (by omega))
    rw [wdV_s (t := 2) (by decide), wdV_s (t := 1) (by decide), wdV_s (t := 0) (by decide), wdV_0]
    omega
  · have b0 := isLt_b (hl 0 (by omega))
    have b1 := isLt_b (hl 1 (by omega))
    have b2 := isLt_b (hl 2 (by omega))
    have b3 := isLt_b (hl 3 (by omega))
    rw [wdV_s (t := 3) (by decide), wdV_s (t := 2) (by decide), wdV_s (t := 1) (by decide), wdV_s (t := 0) (by decide), wdV_0]
    omega
  · have b0 := isLt_b (hl 0 (by omega))
    have b1 := isLt_b (hl 1 (by omega))
    have b2 := isLt_b (hl 2 (by omega))
    have b3 := isLt_b (hl 3 (by omega))
    have b4 := isLt_b (hl 4 (by omega))
    rw [wdV_s (t := 4) (by decide), wdV_s (t := 3) (by decide), wdV_s (t := 2) (by decide), wdV_s (t := 1) (by decide), wdV_s (t := 0) (by decide), wdV_0]
    omega
  · have b0 := isLt_b (hl 0 (by omega))
    have b1 := isLt_b (hl 1 (by omega))
    have b2 := isLt_b (hl 2 (by omega))
    have b3 := isLt_b (hl 3 (by omega))
    have b4 := isLt_b (hl 4 (by omega))
    have b5 := isLt_b (hl 5 (by omega))
    rw [wdV_s (t := 5) (by decide), wdV_s (t := 4) (by decide), wdV_s (t := 3) (by decide), wdV_s (t := 2) (by decide), wdV_s (t := 1) (by decide), wdV_s (t := 0) (by decide), wdV_0]
    omega
theorem wm_4 (h1 : 1 ≤ t) (h6 : t ≤ 6) (hl : ∀ j, j < t → isLt (bs (s + j)) = true) : wdV bs s t = 197932 ↔ t = 4 ∧ (bs (s + 0)).toInt = 102 ∧ (bs (s + 1)).toInt = 97 ∧ (bs (s + 2)).toInt = 105 ∧ (bs (s + 3)).toInt = 108 := by
  have c : t = 1 ∨ t = 2 ∨ t = 3 ∨ t = 4 ∨ t = 5 ∨ t = 6 := by omega
  rcases c with rfl | rfl | rfl | rfl | rfl | rfl
  · have b0 := isLt_b (hl 0 (by omega))
    rw [wdV_s (t := 0) (by decide), wdV_0]
    omega
  · have b0 := isLt_b (hl 0 (by omega))
    have b1 := isLt_b (hl 1 (by omega))
    rw [wdV_s (t := 1) (by decide), wdV_s (t := 0) (by decide), wdV_0]
    omega
  · have b0 := isLt_b (hl 0 (by omega))
    have b1 := isLt_b (hl 1 (by omega))
    have b2 := isLt_b (hl 2 (by omega))
    rw [wdV_s (t := 2) (by decide), wdV_s (t := 1) (by decide), wdV_s (t := 0) (by decide), wdV_0]
    omega
  · have b0 := isLt_b (hl 0 (by omega))
    have b1 := isLt_b (hl 1 (by omega))
    have b2 := isLt_b (hl 2 (by omega))
    have b3 := isLt_b (hl 3 (by omega))
    rw [wdV_s (t := 3) (by decide), wdV_s (t := 2) (by decide), wdV_s (t := 1) (by decide), wdV_s (t := 0) (by decide), wdV_0]
    omega
  · have b0 := isLt_b (hl 0 (by omega))
    have b1 := isLt_b (hl 1 (by omega))
    have b2 := isLt_b (hl 2 (by omega))
    have b3 := isLt_b (hl 3 (by omega))
    have b4 := isLt_b (hl 4 (by omega))
    rw [wdV_s (t := 4) (by decide), wdV_s (t := 3) (by decide), wdV_s (t := 2) (by decide), wdV_s (t := 1) (by decide), wdV_s (t := 0) (by decide), wdV_0]
    omega
  · have b0 := isLt_b (hl 0 (by omega))
    have b1 := isLt_b (hl 1 (by omega))
    have b2 := isLt_b (hl 2 (by omega))
    have b3 := isLt_b (hl 3 (by omega))
    have b4 := isLt_b (hl 4 (by omega))
    have b5 := isLt_b (hl 5 (by omega))
    rw [wdV_s (t := 5) (by decide), wdV_s (t := 4) (by decide), wdV_s (t := 3) (by decide), wdV_s (t := 2) (by decide), wdV_s (t := 1) (by decide), wdV_s (t := 0) (by decide), wdV_0]
    omega
theorem wm_5 (h1 : 1 ≤ t) (h6 : t ≤ 6) (hl : ∀ j, j < t → isLt (bs (s + j)) = true) : wdV bs s t = 14137992 ↔ t = 5 ∧ (bs (s + 0)).toInt = 109 ∧ (bs (s + 1)).toInt = 111 ∧ (bs (s + 2)).toInt = 110 ∧ (bs (s + 3)).toInt = 116 ∧ (bs (s + 4)).toInt = 104 := by
  have c : t = 1 ∨ t = 2 ∨ t = 3 ∨ t = 4 ∨ t = 5 ∨ t = 6 := by omega
  rcases c with rfl | rfl | rfl | rfl | rfl | rfl
  · have b0 := isLt_b (hl 0 (by omega))
    rw [wdV_s (t := 0) (by decide), wdV_0]
    omega
  · have b0 := isLt_b (hl 0 (by omega))
    have b1 := isLt_b (hl 1 (by omega))
    rw [wdV_s (t := 1) (by decide), wdV_s (t := 0) (by decide), wdV_0]
    omega
  · have b0 := isLt_b (hl 0 (by omega))
    have b1 := isLt_b (hl 1 (by omega))
    have b2 := isLt_b (hl 2 (by omega))
    rw [wdV_s (t := 2) (by decide), wdV_s (t := 1) (by decide), wdV_s (t := 0) (by decide), wdV_0]
    omega
  · have b0 := isLt_b (hl 0 (by omega))
    have b1 := isLt_b (hl 1 (by omega))
    have b2 := isLt_b (hl 2 (by omega))
    have b3 := isLt_b (hl 3 (by omega))
    rw [wdV_s (t := 3) (by decide), wdV_s (t := 2) (by decide), wdV_s (t := 1) (by decide), wdV_s (t := 0) (by decide), wdV_0]
    omega
  · have b0 := isLt_b (hl 0 (by omega))
    have b1 := isLt_b (hl 1 (by omega))
    have b2 := isLt_b (hl 2 (by omega))
    have b3 := isLt_b (hl 3 (by omega))
    have b4 := isLt_b (hl 4 (by omega))
    rw [wdV_s (t := 4) (by decide), wdV_s (t := 3) (by decide), wdV_s (t := 2) (by decide), wdV_s (t := 1) (by decide), wdV_s (t := 0) (by decide), wdV_0]
    omega
  · have b0 := isLt_b (hl 0 (by omega))
    have b1 := isLt_b (hl 1 (by omega))
    have b2 := isLt_b (hl 2 (by omega))
    have b3 := isLt_b (hl 3 (by omega))
    have b4 := isLt_b (hl 4 (by omega))
    have b5 := isLt_b (hl 5 (by omega))
    rw [wdV_s (t := 5) (by decide), wdV_s (t := 4) (by decide), wdV_s (t := 3) (by decide), wdV_s (t := 2) (by decide), wdV_s (t := 1) (by decide), wdV_s (t := 0) (by decide), wdV_0]
    omega
theorem wm_6 (h1 : 1 ≤ t) (h6 : t ≤ 6) (hl : ∀ j, j < t → isLt (bs (s + j)) = true) : wdV bs s t = 542622085 ↔ t = 6 ∧ (bs (s + 0)).toInt = 112 ∧ (bs (s + 1)).toInt = 101 ∧ (bs (s + 2)).toInt = 111 ∧ (bs (s + 3)).toInt = 112 ∧ (bs (s + 4)).toInt = 108 ∧ (bs (s + 5)).toInt = 101 := by
  have c : t = 1 ∨ t = 2 ∨ t = 3 ∨ t = 4 ∨ t = 5 ∨ t = 6 := by omega
  rcases c with rfl | rfl | rfl | rfl | rfl | rfl
  · have b0 := isLt_b (hl 0 (by omega))
    rw [wdV_s (t := 0) (by decide), wdV_0]
    omega
  · have b0 := isLt_b (hl 0 (by omega))
    have b1 := isLt_b (hl 1 (by omega))
    rw [wdV_s (t := 1) (by decide), wdV_s (t := 0) (by decide), wdV_0]
    omega
  · have b0 := isLt_b (hl 0 (by omega))
    have b1 := isLt_b (hl 1 (by omega))
    have b2 := isLt_b (hl 2 (by omega))
    rw [wdV_s (t := 2) (by decide), wdV_s (t := 1) (by decide), wdV_s (t := 0) (by decide), wdV_0]
    omega
  · have b0 := isLt_b (hl 0 (by omega))
    have b1 := isLt_b (hl 1 (by omega))
    have b2 := isLt_b (hl 2 (by omega))
    have b3 := isLt_b (hl 3 (by omega))
    rw [wdV_s (t := 3) (by decide), wdV_s (t := 2) (by decide), wdV_s (t := 1) (by decide), wdV_s (t := 0) (by decide), wdV_0]
    omega
  · have b0 := isLt_b (hl 0 (by omega))
    have b1 := isLt_b (hl 1 (by omega))
    have b2 := isLt_b (hl 2 (by omega))
    have b3 := isLt_b (hl 3 (by omega))
    have b4 := isLt_b (hl 4 (by omega))
    rw [wdV_s (t := 4) (by decide), wdV_s (t := 3) (by decide), wdV_s (t := 2) (by decide), wdV_s (t := 1) (by decide), wdV_s (t := 0) (by decide), wdV_0]
    omega
  · have b0 := isLt_b (hl 0 (by omega))
    have b1 := isLt_b (hl 1 (by omega))
    have b2 := isLt_b (hl 2 (by omega))
    have b3 := isLt_b (hl 3 (by omega))
    have b4 := isLt_b (hl 4 (by omega))
    have b5 := isLt_b (hl 5 (by omega))
    rw [wdV_s (t := 5) (by decide), wdV_s (t := 4) (by decide), wdV_s (t := 3) (by decide), wdV_s (t := 2) (by decide), wdV_s (t := 1) (by decide), wdV_s (t := 0) (by decide), wdV_0]
    omega
theorem wm_7 (h1 : 1 ≤ t) (h6 : t ≤ 6) (hl : ∀ j, j < t → isLt (bs (s + j)) = true) : wdV bs s t = 769604 ↔ t = 4 ∧ (bs (s + 0)).toInt = 119 ∧ (bs (s + 1)).toInt = 111 ∧ (bs (s + 2)).toInt = 114 ∧ (bs (s + 3)).toInt = 100 := by
  have c : t = 1 ∨ t = 2 ∨ t = 3 ∨ t = 4 ∨ t = 5 ∨ t = 6 := by omega
  rcases c with rfl | rfl | rfl | rfl | rfl | rfl
  · have b0 := isLt_b (hl 0 (by omega))
    rw [wdV_s (t := 0) (by decide), wdV_0]
    omega
  · have b0 := isLt_b (hl 0 (by omega))
    have b1 := isLt_b (hl 1 (by omega))
    rw [wdV_s (t := 1) (by decide), wdV_s (t := 0) (by decide), wdV_0]
    omega
  · have b0 := isLt_b (hl 0 (by omega))
    have b1 := isLt_b (hl 1 (by omega))
    have b2 := isLt_b (hl 2 (by omega))
    rw [wdV_s (t := 2) (by decide), wdV_s (t := 1) (by decide), wdV_s (t := 0) (by decide), wdV_0]
    omega
  · have b0 := isLt_b (hl 0 (by omega))
    have b1 := isLt_b (hl 1 (by omega))
    have b2 := isLt_b (hl 2 (by omega))
    have b3 := isLt_b (hl 3 (by omega))
    rw [wdV_s (t := 3) (by decide), wdV_s (t := 2) (by decide), wdV_s (t := 1) (by decide), wdV_s (t := 0) (by decide), wdV_0]
    omega
  · have b0 := isLt_b (hl 0 (by omega))
    have b1 := isLt_b (hl 1 (by omega))
    have b2 := isLt_b (hl 2 (by omega))
    have b3 := isLt_b (hl 3 (by omega))
    have b4 := isLt_b (hl 4 (by omega))
    rw [wdV_s (t := 4) (by decide), wdV_s (t := 3) (by decide), wdV_s (t := 2) (by decide), wdV_s (t := 1) (by decide), wdV_s (t := 0) (by decide), wdV_0]
    omega
  · have b0 := isLt_b (hl 0 (by omega))
    have b1 := isLt_b (hl 1 (by omega))
    have b2 := isLt_b (hl 2 (by omega))
    have b3 := isLt_b (hl 3 (by omega))
    have b4 := isLt_b (hl 4 (by omega))
    have b5 := isLt_b (hl 5 (by omega))
    rw [wdV_s (t := 5) (by decide), wdV_s (t := 4) (by decide), wdV_s (t := 3) (by decide), wdV_s (t := 2) (by decide), wdV_s (t := 1) (by decide), wdV_s (t := 0) (by decide), wdV_0]
    omega
theorem wm_8 (h1 : 1 ≤ t) (h6 : t ≤ 6) (hl : ∀ j, j < t → isLt (bs (s + j)) = true) : wdV bs s t = 1420 ↔ t = 3 ∧ (bs (s + 0)).toInt = 97 ∧ (bs (s + 1)).toInt = 108 ∧ (bs (s + 2)).toInt = 108 := by
  have c : t = 1 ∨ t = 2 ∨ t = 3 ∨ t = 4 ∨ t = 5 ∨ t = 6 := by omega
  rcases c with rfl | rfl | rfl | rfl | rfl | rfl
  · have b0 := isLt_b (hl 0 (by omega))
    rw [wdV_s (t := 0) (by decide), wdV_0]
    omega
  · have b0 := isLt_b (hl 0 (by omega))
    have b1 := isLt_b (hl 1 (by omega))
    rw [wdV_s (t := 1) (by decide), wdV_s (t := 0) (by decide), wdV_0]
    omega
  · have b0 := isLt_b (hl 0 (by omega))
    have b1 := isLt_b (hl 1 (by omega))
    have b2 := isLt_b (hl 2 (by omega))
    rw [wdV_s (t := 2) (by decide), wdV_s (t := 1) (by decide), wdV_s (t := 0) (by decide), wdV_0]
    omega
  · have b0 := isLt_b (hl 0 (by omega))
    have b1 := isLt_b (hl 1 (by omega))
    have b2 := isLt_b (hl 2 (by omega))
    have b3 := isLt_b (hl 3 (by omega))
    rw [wdV_s (t := 3) (by decide), wdV_s (t := 2) (by decide), wdV_s (t := 1) (by decide), wdV_s (t := 0) (by decide), wdV_0]
    omega
  · have b0 := isLt_b (hl 0 (by omega))
    have b1 := isLt_b (hl 1 (by omega))
    have b2 := isLt_b (hl 2 (by omega))
    have b3 := isLt_b (hl 3 (by omega))
    have b4 := isLt_b (hl 4 (by omega))
    rw [wdV_s (t := 4) (by decide), wdV_s (t := 3) (by decide), wdV_s (t := 2) (by decide), wdV_s (t := 1) (by decide), wdV_s (t := 0) (by decide), wdV_0]
    omega
  · have b0 := isLt_b (hl 0 (by omega))
    have b1 := isLt_b (hl 1 (by omega))
    have b2 := isLt_b (hl 2 (by omega))
    have b3 := isLt_b (hl 3 (by omega))
    have b4 := isLt_b (hl 4 (by omega))
    have b5 := isLt_b (hl 5 (by omega))
    rw [wdV_s (t := 5) (by decide), wdV_s (t := 4) (by decide), wdV_s (t := 3) (by decide), wdV_s (t := 2) (by decide), wdV_s (t := 1) (by decide), wdV_s (t := 0) (by decide), wdV_0]
    omega
theorem wm_9 (h1 : 1 ≤ t) (h6 : t ≤ 6) (hl : ∀ j, j < t → isLt (bs (s + j)) = true) : wdV bs s t = 6309 ↔ t = 3 ∧ (bs (s + 0)).toInt = 102 ∧ (bs (s + 1)).toInt = 101 ∧ (bs (s + 2)).toInt = 101 := by
  have c : t = 1 ∨ t = 2 ∨ t = 3 ∨ t = 4 ∨ t = 5 ∨ t = 6 := by omega
  rcases c with rfl | rfl | rfl | rfl | rfl | rfl
  · have b0 := isLt_b (hl 0 (by omega))
    rw [wdV_s (t := 0) (by decide), wdV_0]
    omega
  · have b0 := isLt_b (hl 0 (by omega))
    have b1 := isLt_b (hl 1 (by omega))
    rw [wdV_s (t := 1) (by decide), wdV_s (t := 0) (by decide), wdV_0]
    omega
  · have b0 := isLt_b (hl 0 (by omega))
    have b1 := isLt_b (hl 1 (by omega))
    have b2 := isLt_b (hl 2 (by omega))
    rw [wdV_s (t := 2) (by decide), wdV_s (t := 1) (by decide), wdV_s (t := 0) (by decide), wdV_0]
    omega
  · have b0 := isLt_b (hl 0 (by omega))
    have b1 := isLt_b (hl 1 (by omega))
    have b2 := isLt_b (hl 2 (by omega))
    have b3 := isLt_b (hl 3 (by omega))
    rw [wdV_s (t := 3) (by decide), wdV_s (t := 2) (by decide), wdV_s (t := 1) (by decide), wdV_s (t := 0) (by decide), wdV_0]
    omega
  · have b0 := isLt_b (hl 0 (by omega))
    have b1 := isLt_b (hl 1 (by omega))
    have b2 := isLt_b (hl 2 (by omega))
    have b3 := isLt_b (hl 3 (by omega))
    have b4 := isLt_b (hl 4 (by omega))
    rw [wdV_s (t := 4) (by decide), wdV_s (t := 3) (by decide), wdV_s (t := 2) (by decide), wdV_s (t := 1) (by decide), wdV_s (t := 0) (by decide), wdV_0]
    omega
  · have b0 := isLt_b (hl 0 (by omega))
    have b1 := isLt_b (hl 1 (by omega))
    have b2 := isLt_b (hl 2 (by omega))
    have b3 := isLt_b (hl 3 (by omega))
    have b4 := isLt_b (hl 4 (by omega))
    have b5 := isLt_b (hl 5 (by omega))
    rw [wdV_s (t := 5) (by decide), wdV_s (t := 4) (by decide), wdV_s (t := 3) (by decide), wdV_s (t := 2) (by decide), wdV_s (t := 1) (by decide), wdV_s (t := 0) (by decide), wdV_0]
    omega
theorem wm_10 (h1 : 1 ≤ t) (h6 : t ≤ 6) (hl : ∀ j, j < t → isLt (bs (s + j)) = true) : wdV bs s t = 599659 ↔ t = 4 ∧ (bs (s + 0)).toInt = 114 ∧ (bs (s + 1)).toInt = 105 ∧ (bs (s + 2)).toInt = 115 ∧ (bs (s + 3)).toInt = 107 := by
  have c : t = 1 ∨ t = 2 ∨ t = 3 ∨ t = 4 ∨ t = 5 ∨ t = 6 := by omega
  rcases c with rfl | rfl | rfl | rfl | rfl | rfl
  · have b0 := isLt_b (hl 0 (by omega))
    rw [wdV_s (t := 0) (by decide), wdV_0]
    omega
  · have b0 := isLt_b (hl 0 (by omega))
    have b1 := isLt_b (hl 1 (by omega))
    rw [wdV_s (t := 1) (by decide), wdV_s (t := 0) (by decide), wdV_0]
    omega
  · have b0 := isLt_b (hl 0 (by omega))
    have b1 := isLt_b (hl 1 (by omega))
    have b2 := isLt_b (hl 2 (by omega))
    rw [wdV_s (t := 2) (by decide), wdV_s (t := 1) (by decide), wdV_s (t := 0) (by decide), wdV_0]
    omega
  · have b0 := isLt_b (hl 0 (by omega))
    have b1 := isLt_b (hl 1 (by omega))
    have b2 := isLt_b (hl 2 (by omega))
    have b3 := isLt_b (hl 3 (by omega))
    rw [wdV_s (t := 3) (by decide), wdV_s (t := 2) (by decide), wdV_s (t := 1) (by decide), wdV_s (t := 0) (by decide), wdV_0]
    omega
  · have b0 := isLt_b (hl 0 (by omega))
    have b1 := isLt_b (hl 1 (by omega))
    have b2 := isLt_b (hl 2 (by omega))
    have b3 := isLt_b (hl 3 (by omega))
    have b4 := isLt_b (hl 4 (by omega))
    rw [wdV_s (t := 4) (by decide), wdV_s (t := 3) (by decide), wdV_s (t := 2) (by decide), wdV_s (t := 1) (by decide), wdV_s (t := 0) (by decide), wdV_0]
    omega
  · have b0 := isLt_b (hl 0 (by omega))
    have b1 := isLt_b (hl 1 (by omega))
    have b2 := isLt_b (hl 2 (by omega))
    have b3 := isLt_b (hl 3 (by omega))
    have b4 := isLt_b (hl 4 (by omega))
    have b5 := isLt_b (hl 5 (by omega))
    rw [wdV_s (t := 5) (by decide), wdV_s (t := 4) (by decide), wdV_s (t := 3) (by decide), wdV_s (t := 2) (by decide), wdV_s (t := 1) (by decide), wdV_s (t := 0) (by decide), wdV_0]
    omega
theorem wm_11 (h1 : 1 ≤ t) (h6 : t ≤ 6) (hl : ∀ j, j < t → isLt (bs (s + j)) = true) : wdV bs s t = 20317291 ↔ t = 5 ∧ (bs (s + 0)).toInt = 115 ∧ (bs (s + 1)).toInt = 108 ∧ (bs (s + 2)).toInt = 97 ∧ (bs (s + 3)).toInt = 99 ∧ (bs (s + 4)).toInt = 107 := by
  have c : t = 1 ∨ t = 2 ∨ t = 3 ∨ t = 4 ∨ t = 5 ∨ t = 6 := by omega
  rcases c with rfl | rfl | rfl | rfl | rfl | rfl
  · have b0 := isLt_b (hl 0 (by omega))
    rw [wdV_s (t := 0) (by decide), wdV_0]
    omega
  · have b0 := isLt_b (hl 0 (by omega))
    have b1 := isLt_b (hl 1 (by omega))
    rw [wdV_s (t := 1) (by decide), wdV_s (t := 0) (by decide), wdV_0]
    omega
  · have b0 := isLt_b (hl 0 (by omega))
    have b1 := isLt_b (hl 1 (by omega))
    have b2 := isLt_b (hl 2 (by omega))
    rw [wdV_s (t := 2) (by decide), wdV_s (t := 1) (by decide), wdV_s (t := 0) (by decide), wdV_0]
    omega
  · have b0 := isLt_b (hl 0 (by omega))
    have b1 := isLt_b (hl 1 (by omega))
    have b2 := isLt_b (hl 2 (by omega))
    have b3 := isLt_b (hl 3 (by omega))
    rw [wdV_s (t := 3) (by decide), wdV_s (t := 2) (by decide), wdV_s (t := 1) (by decide), wdV_s (t := 0) (by decide), wdV_0]
    omega
  · have b0 := isLt_b (hl 0 (by omega))
    have b1 := isLt_b (hl 1 (by omega))
    have b2 := isLt_b (hl 2 (by omega))
    have b3 := isLt_b (hl 3 (by omega))
    have b4 := isLt_b (hl 4 (by omega))
    rw [wdV_s (t := 4) (by decide), wdV_s (t := 3) (by decide), wdV_s (t := 2) (by decide), wdV_s (t := 1) (by decide), wdV_s (t := 0) (by decide), wdV_0]
    omega
  · have b0 := isLt_b (hl 0 (by omega))
    have b1 := isLt_b (hl 1 (by omega))
    have b2 := isLt_b (hl 2 (by omega))
    have b3 := isLt_b (hl 3 (by omega))
    have b4 := isLt_b (hl 4 (by omega))
    have b5 := isLt_b (hl 5 (by omega))
    rw [wdV_s (t := 5) (by decide), wdV_s (t := 4) (by decide), wdV_s (t := 3) (by decide), wdV_s (t := 2) (by decide), wdV_s (t := 1) (by decide), wdV_s (t := 0) (by decide), wdV_0]
    omega
theorem wm_12 (h1 : 1 ≤ t) (h6 : t ≤ 6) (hl : ∀ j, j < t → isLt (bs (s + j)) = true) : wdV bs s t = 755156 ↔ t = 4 ∧ (bs (s + 0)).toInt = 119 ∧ (bs (s + 1)).toInt = 97 ∧ (bs (s + 2)).toInt = 110 ∧ (bs (s + 3)).toInt = 116 := by
  have c : t = 1 ∨ t = 2 ∨ t = 3 ∨ t = 4 ∨ t = 5 ∨ t = 6 := by omega
  rcases c with rfl | rfl | rfl | rfl | rfl | rfl
  · have b0 := isLt_b (hl 0 (by omega))
    rw [wdV_s (t := 0) (by decide), wdV_0]
    omega
  · have b0 := isLt_b (hl 0 (by omega))
    have b1 := isLt_b (hl 1 (by omega))
    rw [wdV_s (t := 1) (by decide), wdV_s (t := 0) (by decide), wdV_0]
    omega
  · have b0 := isLt_b (hl 0 (by omega))
    have b1 := isLt_b (hl 1 (by omega))
    have b2 := isLt_b (hl 2 (by omega))
    rw [wdV_s (t := 2) (by decide), wdV_s (t := 1) (by decide), wdV_s (t := 0) (by decide), wdV_0]
    omega
  · have b0 := isLt_b (hl 0 (by omega))
    have b1 := isLt_b (hl 1 (by omega))
    have b2 := isLt_b (hl 2 (by omega))
    have b3 := isLt_b (hl 3 (by omega))
    rw [wdV_s (t := 3) (by decide), wdV_s (t := 2) (by decide), wdV_s (t := 1) (by decide), wdV_s (t := 0) (by decide), wdV_0]
    omega
  · have b0 := isLt_b (hl 0 (by omega))
    have b1 := isLt_b (hl 1 (by omega))
    have b2 := isLt_b (hl 2 (by omega))
    have b3 := isLt_b (hl 3 (by omega))
    have b4 := isLt_b (hl 4 (by omega))
    rw [wdV_s (t := 4) (by decide), wdV_s (t := 3) (by decide), wdV_s (t := 2) (by decide), wdV_s (t := 1) (by decide), wdV_s (t := 0) (by decide), wdV_0]
    omega
  · have b0 := isLt_b (hl 0 (by omega))
    have b1 := isLt_b (hl 1 (by omega))
    have b2 := isLt_b (hl 2 (by omega))
    have b3 := isLt_b (hl 3 (by omega))
    have b4 := isLt_b (hl 4 (by omega))
    have b5 := isLt_b (hl 5 (by omega))
    rw [wdV_s (t := 5) (by decide), wdV_s (t := 4) (by decide), wdV_s (t := 3) (by decide), wdV_s (t := 2) (by decide), wdV_s (t := 1) (by decide), wdV_s (t := 0) (by decide), wdV_0]
    omega
theorem wdK_cases (V : Int) : (V = 542622085 ∧ wdK V = 1) ∨ (V = 769604 ∧ wdK V = 2) ∨ (V = 1420 ∧ wdK V = 3) ∨ (V = 6309 ∧ wdK V = 4) ∨ (V = 599659 ∧ wdK V = 5) ∨ (V = 20317291 ∧ wdK V = 6) ∨ (V = 755156 ∧ wdK V = 7) ∨ (V = 16101 ∧ wdK V = 11) ∨ (V = 16441 ∧ wdK V = 12) ∨ (V = 599495 ∧ wdK V = 13) ∨ (V = 659105125 ∧ wdK V = 14) ∨ (V = 197932 ∧ wdK V = 15) ∨ (V = 14137992 ∧ wdK V = 16) ∨ wdK V = 99 := by
  by_cases c0 : V = 542622085
  · subst c0
    exact Or.inl ⟨rfl, by decide +kernel⟩
  by_cases c1 : V = 769604
  · subst c1
    exact Or.inr (Or.inl ⟨rfl, by decide +kernel⟩)
  by_cases c2 : V = 1420
  · subst c2
    exact Or.inr (Or.inr (Or.inl ⟨rfl, by decide +kernel⟩))
  by_cases c3 : V = 6309
  · subst c3
    exact Or.inr (Or.inr (Or.inr (Or.inl ⟨rfl, by decide +kernel⟩)))
  by_cases c4 : V = 599659
  · subst c4
    exact Or.inr (Or.inr (Or.inr (Or.inr (Or.inl ⟨rfl, by decide +kernel⟩))))
  by_cases c5 : V = 20317291
  · subst c5
    exact Or.inr (Or.inr (Or.inr (Or.inr (Or.inr (Or.inl ⟨rfl, by decide +kernel⟩)))))
  by_cases c6 : V = 755156
  · subst c6
    exact Or.inr (Or.inr (Or.inr (Or.inr (Or.inr (Or.inr (Or.inl ⟨rfl, by decide +kernel⟩))))))
  by_cases c7 : V = 16101
  · subst c7
    exact Or.inr (Or.inr (Or.inr (Or.inr (Or.inr (Or.inr (Or.inr (Or.inl ⟨rfl, by decide +kernel⟩)))))))
  by_cases c8 : V = 16441
  · subst c8
    exact Or.inr (Or.inr (Or.inr (Or.inr (Or.inr (Or.inr (Or.inr (Or.inr (Or.inl ⟨rfl, by decide +kernel⟩))))))))
  by_cases c9 : V = 599495
  · subst c9
    exact Or.inr (Or.inr (Or.inr (Or.inr (Or.inr (Or.inr (Or.inr (Or.inr (Or.inr (Or.inl ⟨rfl, by decide +kernel⟩)))))))))
  by_cases c10 : V = 659105125
  · subst c10
    exact Or.inr (Or.inr (Or.inr (Or.inr (Or.inr (Or.inr (Or.inr (Or.inr (Or.inr (Or.inr (Or.inl ⟨rfl, by decide +kernel⟩))))))))))
  by_cases c11 : V = 197932
  · subst c11
    exact Or.inr (Or.inr (Or.inr (Or.inr (Or.inr (Or.inr (Or.inr (Or.inr (Or.inr (Or.inr (Or.inr (Or.inl ⟨rfl, by decide +kernel⟩)))))))))))
  by_cases c12 : V = 14137992
  · subst c12
    exact Or.inr (Or.inr (Or.inr (Or.inr (Or.inr (Or.inr (Or.inr (Or.inr (Or.inr (Or.inr (Or.inr (Or.inr (Or.inl ⟨rfl, by decide +kernel⟩))))))))))))
  refine Or.inr (Or.inr (Or.inr (Or.inr (Or.inr (Or.inr (Or.inr (Or.inr (Or.inr (Or.inr (Or.inr (Or.inr (Or.inr (?_)))))))))))))
  unfold wdK
  rw [if_neg c0, if_neg c1, if_neg c2, if_neg c3, if_neg c4, if_neg c5, if_neg c6, if_neg c7, if_neg c8, if_neg c9, if_neg c10, if_neg c11, if_neg c12]
theorem thirteen {v : Nat} {P : Nat → Prop} (h : v ≤ 12) (h0 : P 0) (h1 : P 1) (h2 : P 2) (h3 : P 3) (h4 : P 4) (h5 : P 5) (h6 : P 6) (h7 : P 7) (h8 : P 8) (h9 : P 9) (h10 : P 10) (h11 : P 11) (h12 : P 12) : P v := by
  have c : v = 0 ∨ v = 1 ∨ v = 2 ∨ v = 3 ∨ v = 4 ∨ v = 5 ∨ v = 6 ∨ v = 7 ∨ v = 8 ∨ v = 9 ∨ v = 10 ∨ v = 11 ∨ v = 12 := by omega
  rcases c with rfl | rfl | rfl | rfl | rfl | rfl | rfl | rfl | rfl | rfl | rfl | rfl | rfl <;> assumption
theorem wdK_iff {V : Int} {v : Nat} (h : v ≤ 12) : wdK V = vC v ↔ V = vN v := by
  constructor
  · intro q
    rcases wdK_cases V with ⟨e, f⟩ | ⟨e, f⟩ | ⟨e, f⟩ | ⟨e, f⟩ | ⟨e, f⟩ | ⟨e, f⟩ | ⟨e, f⟩ | ⟨e, f⟩ | ⟨e, f⟩ | ⟨e, f⟩ | ⟨e, f⟩ | ⟨e, f⟩ | ⟨e, f⟩ | e
    · rw [f] at q
      revert q
      refine thirteen (P := fun v => 1 = vC v → V = vN v) h (fun q => absurd q (by decide +kernel)) (fun q => absurd q (by decide +kernel)) (fun q => absurd q (by decide +kernel)) (fun q => absurd q (by decide +kernel)) (fun q => absurd q (by decide +kernel)) (fun q => absurd q (by decide +kernel)) (fun _ => e) (fun q => absurd q (by decide +kernel)) (fun q => absurd q (by decide +kernel)) (fun q => absurd q (by decide +kernel)) (fun q => absurd q (by decide +kernel)) (fun q => absurd q (by decide +kernel)) (fun q => absurd q (by decide +kernel))
    · rw [f] at q
      revert q
      refine thirteen (P := fun v => 2 = vC v → V = vN v) h (fun q => absurd q (by decide +kernel)) (fun q => absurd q (by decide +kernel)) (fun q => absurd q (by decide +kernel)) (fun q => absurd q (by decide +kernel)) (fun q => absurd q (by decide +kernel)) (fun q => absurd q (by decide +kernel)) (fun q => absurd q (by decide +kernel)) (fun _ => e) (fun q => absurd q (by decide +kernel)) (fun q => absurd q (by decide +kernel)) (fun q => absurd q (by decide +kernel)) (fun q => absurd q (by decide +kernel)) (fun q => absurd q (by decide +kernel))
    · rw [f] at q
      revert q
      refine thirteen (P := fun v => 3 = vC v → V = vN v) h (fun q => absurd q (by decide +kernel)) (fun q => absurd q (by decide +kernel)) (fun q => absurd q (by decide +kernel)) (fun q => absurd q (by decide +kernel)) (fun q => absurd q (by decide +kernel)) (fun q => absurd q (by decide +kernel)) (fun q => absurd q (by decide +kernel)) (fun q => absurd q (by decide +kernel)) (fun _ => e) (fun q => absurd q (by decide +kernel)) (fun q => absurd q (by decide +kernel)) (fun q => absurd q (by decide +kernel)) (fun q => absurd q (by decide +kernel))
    · rw [f] at q
      revert q
      refine thirteen (P := fun v => 4 = vC v → V = vN v) h (fun q => absurd q (by decide +kernel)) (fun q => absurd q (by decide +kernel)) (fun q => absurd q (by decide +kernel)) (fun q => absurd q (by decide +kernel)) (fun q => absurd q (by decide +kernel)) (fun q => absurd q (by decide +kernel)) (fun q => absurd q (by decide +kernel)) (fun q => absurd q (by decide +kernel)) (fun q => absurd q (by decide +kernel)) (fun _ => e) (fun q => absurd q (by decide +kernel)) (fun q => absurd q (by decide +kernel)) (fun q => absurd q (by decide +kernel))
    · rw [f] at q
      revert q
      refine thirteen (P := fun v => 5 = vC v → V = vN v) h (fun q => absurd q (by decide +kernel)) (fun q => absurd q (by decide +kernel)) (fun q => absurd q (by decide +kernel)) (fun q => absurd q (by decide +kernel)) (fun q => absurd q (by decide +kernel)) (fun q => absurd q (by decide +kernel)) (fun q => absurd q (by decide +kernel)) (fun q => absurd q (by decide +kernel)) (fun q => absurd q (by decide +kernel)) (fun q => absurd q (by decide +kernel)) (fun _ => e) (fun q => absurd q (by decide +kernel)) (fun q => absurd q (by decide +kernel))
    · rw [f] at q
      revert q
      refine thirteen (P := fun v => 6 = vC v → V = vN v) h (fun q => absurd q (by decide +kernel)) (fun q => absurd q (by decide +kernel)) (fun q => absurd q (by decide +kernel)) (fun q => absurd q (by decide +kernel)) (fun q => absurd q (by decide +kernel)) (fun q => absurd q (by decide +kernel)) (fun q => absurd q (by decide +kernel)) (fun q => absurd q (by decide +kernel)) (fun q => absurd q (by decide +kernel)) (fun q => absurd q (by decide +kernel)) (fun q => absurd q (by decide +kernel)) (fun _ => e) (fun q => absurd q (by decide +kernel))
    · rw [f] at q
      revert q
      refine thirteen (P := fun v => 7 = vC v → V = vN v) h (fun q => absurd q (by decide +kernel)) (fun q => absurd q (by decide +kernel)) (fun q => absurd q (by decide +kernel)) (fun q => absurd q (by decide +kernel)) (fun q => absurd q (by decide +kernel)) (fun q => absurd q (by decide +kernel)) (fun q => absurd q (by decide +kernel)) (fun q => absurd q (by decide +kernel)) (fun q => absurd q (by decide +kernel)) (fun q => absurd q (by decide +kernel)) (fun q => absurd q (by decide +kernel)) (fun q => absurd q (by decide +kernel)) (fun _ => e)
    · rw [f] at q
      revert q
      refine thirteen (P := fun v => 11 = vC v → V = vN v) h (fun _ => e) (fun q => absurd q (by decide +kernel)) (fun q => absurd q (by decide +kernel)) (fun q => absurd q (by decide +kernel)) (fun q => absurd q (by decide +kernel)) (fun q => absurd q (by decide +kernel)) (fun q => absurd q (by decide +kernel)) (fun q => absurd q (by decide +kernel)) (fun q => absurd q (by decide +kernel)) (fun q => absurd q (by decide +kernel)) (fun q => absurd q (by decide +kernel)) (fun q => absurd q (by decide +kernel)) (fun q => absurd q (by decide +kernel))
    · rw [f] at q
      revert q
      refine thirteen (P := fun v => 12 = vC v → V = vN v) h (fun q => absurd q (by decide +kernel)) (fun _ => e) (fun q => absurd q (by decide +kernel)) (fun q => absurd q (by decide +kernel)) (fun q => absurd q (by decide +kernel)) (fun q => absurd q (by decide +kernel)) (fun q => absurd q (by decide +kernel)) (fun q => absurd q (by decide +kernel)) (fun q => absurd q (by decide +kernel)) (fun q => absurd q (by decide +kernel)) (fun q => absurd q (by decide +kernel)) (fun q => absurd q (by decide +kernel)) (fun q => absurd q (by decide +kernel))
    · rw [f] at q
      revert q
      refine thirteen (P := fun v => 13 = vC v → V = vN v) h (fun q => absurd q (by decide +kernel)) (fun q => absurd q (by decide +kernel)) (fun _ => e) (fun q => absurd q (by decide +kernel)) (fun q => absurd q (by decide +kernel)) (fun q => absurd q (by decide +kernel)) (fun q => absurd q (by decide +kernel)) (fun q => absurd q (by decide +kernel)) (fun q => absurd q (by decide +kernel)) (fun q => absurd q (by decide +kernel)) (fun q => absurd q (by decide +kernel)) (fun q => absurd q (by decide +kernel)) (fun q => absurd q (by decide +kernel))
    · rw [f] at q
      revert q
      refine thirteen (P := fun v => 14 = vC v → V = vN v) h (fun q => absurd q (by decide +kernel)) (fun q => absurd q (by decide +kernel)) (fun q => absurd q (by decide +kernel)) (fun _ => e) (fun q => absurd q (by decide +kernel)) (fun q => absurd q (by decide +kernel)) (fun q => absurd q (by decide +kernel)) (fun q => absurd q (by decide +kernel)) (fun q => absurd q (by decide +kernel)) (fun q => absurd q (by decide +kernel)) (fun q => absurd q (by decide +kernel)) (fun q => absurd q (by decide +kernel)) (fun q => absurd q (by decide +kernel))
    · rw [f] at q
      revert q
      refine thirteen (P := fun v => 15 = vC v → V = vN v) h (fun q => absurd q (by decide +kernel)) (fun q => absurd q (by decide +kernel)) (fun q => absurd q (by decide +kernel)) (fun q => absurd q (by decide +kernel)) (fun _ => e) (fun q => absurd q (by decide +kernel)) (fun q => absurd q (by decide +kernel)) (fun q => absurd q (by decide +kernel)) (fun q => absurd q (by decide +kernel)) (fun q => absurd q (by decide +kernel)) (fun q => absurd q (by decide +kernel)) (fun q => absurd q (by decide +kernel)) (fun q => absurd q (by decide +kernel))
    · rw [f] at q
      revert q
      refine thirteen (P := fun v => 16 = vC v → V = vN v) h (fun q => absurd q (by decide +kernel)) (fun q => absurd q (by decide +kernel)) (fun q => absurd q (by decide +kernel)) (fun q => absurd q (by decide +kernel)) (fun q => absurd q (by decide +kernel)) (fun _ => e) (fun q => absurd q (by decide +kernel)) (fun q => absurd q (by decide +kernel)) (fun q => absurd q (by decide +kernel)) (fun q => absurd q (by decide +kernel)) (fun q => absurd q (by decide +kernel)) (fun q => absurd q (by decide +kernel)) (fun q => absurd q (by decide +kernel))
    · rw [e] at q
      revert q
      refine thirteen (P := fun v => 99 = vC v → V = vN v) h (fun q => absurd q (by decide +kernel)) (fun q => absurd q (by decide +kernel)) (fun q => absurd q (by decide +kernel)) (fun q => absurd q (by decide +kernel)) (fun q => absurd q (by decide +kernel)) (fun q => absurd q (by decide +kernel)) (fun q => absurd q (by decide +kernel)) (fun q => absurd q (by decide +kernel)) (fun q => absurd q (by decide +kernel)) (fun q => absurd q (by decide +kernel)) (fun q => absurd q (by decide +kernel)) (fun q => absurd q (by decide +kernel)) (fun q => absurd q (by decide +kernel))
  · intro q
    subst q
    exact thirteen (P := fun v => wdK (vN v) = vC v) h (by decide +kernel) (by decide +kernel) (by decide +kernel) (by decide +kernel) (by decide +kernel) (by decide +kernel) (by decide +kernel) (by decide +kernel) (by decide +kernel) (by decide +kernel) (by decide +kernel) (by decide +kernel) (by decide +kernel)
theorem mt_wd {v : Nat} (h12 : v ≤ 12) (hse : s < e) (hl : ∀ j, j < e - s → isLt (bs (s + j)) = true) : mtc bs s e (vTx v) ↔ wdC bs s e = vC v := by
  have n99 : vC v ≠ 99 := by
    have c : v = 0 ∨ v = 1 ∨ v = 2 ∨ v = 3 ∨ v = 4 ∨ v = 5 ∨ v = 6 ∨ v = 7 ∨ v = 8 ∨ v = 9 ∨ v = 10 ∨ v = 11 ∨ v = 12 := by omega
    rcases c with rfl | rfl | rfl | rfl | rfl | rfl | rfl | rfl | rfl | rfl | rfl | rfl | rfl <;> decide +kernel
  have l6 := (vT_len h12).1
  by_cases c6 : e ≤ s + 6
  · unfold wdC
    rw [if_pos c6, wdK_iff h12]
    obtain ⟨t, ht⟩ : ∃ t, t = e - s := ⟨_, rfl⟩
    unfold mtc
    rw [← ht] at hl ⊢
    have t1 : 1 ≤ t := by omega
    have t6 : t ≤ 6 := by omega
    have c : v = 0 ∨ v = 1 ∨ v = 2 ∨ v = 3 ∨ v = 4 ∨ v = 5 ∨ v = 6 ∨ v = 7 ∨ v = 8 ∨ v = 9 ∨ v = 10 ∨ v = 11 ∨ v = 12 := by omega
    have gi : ∀ (x : Int32) (n : Int), n = x.toInt → ∀ y : Int32, y.toInt = n → y = x := fun x n hx y hy => Int32.toInt_inj.mp (hy.trans hx)
    rcases c with rfl | rfl | rfl | rfl | rfl | rfl | rfl | rfl | rfl | rfl | rfl | rfl | rfl
    · rw [show vN 0 = 16101 from rfl, wm_0 t1 t6 hl, show (vTx 0).length = 3 from by decide +kernel]
      constructor
      · intro q
        refine ⟨q.1, ?_, ?_, ?_⟩
        · rw [q.2 0 (by decide)]; decide +kernel
        · rw [q.2 1 (by decide)]; decide +kernel
        · rw [q.2 2 (by decide)]; decide +kernel
      · rintro ⟨q, z0, z1, z2⟩
        refine ⟨q, fun i hi => ?_⟩
        have ci : i = 0 ∨ i = 1 ∨ i = 2 := by omega
        rcases ci with rfl | rfl | rfl
        · exact gi _ _ (by decide +kernel) _ z0
        · exact gi _ _ (by decide +kernel) _ z1
        · exact gi _ _ (by decide +kernel) _ z2
    · rw [show vN 1 = 16441 from rfl, wm_1 t1 t6 hl, show (vTx 1).length = 3 from by decide +kernel]
      constructor
      · intro q
        refine ⟨q.1, ?_, ?_, ?_⟩
        · rw [q.2 0 (by decide)]; decide +kernel
        · rw [q.2 1 (by decide)]; decide +kernel
        · rw [q.2 2 (by decide)]; decide +kernel
      · rintro ⟨q, z0, z1, z2⟩
        refine ⟨q, fun i hi => ?_⟩
        have ci : i = 0 ∨ i = 1 ∨ i = 2 := by omega
        rcases ci with rfl | rfl | rfl
        · exact gi _ _ (by decide +kernel) _ z0
        · exact gi _ _ (by decide +kernel) _ z1
        · exact gi _ _ (by decide +kernel) _ z2
    · rw [show vN 2 = 599495 from rfl, wm_2 t1 t6 hl, show (vTx 2).length = 4 from by decide +kernel]
      constructor
      · intro q
        refine ⟨q.1, ?_, ?_, ?_, ?_⟩
        · rw [q.2 0 (by decide)]; decide +kernel
        · rw [q.2 1 (by decide)]; decide +kernel
        · rw [q.2 2 (by decide)]; decide +kernel
        · rw [q.2 3 (by decide)]; decide +kernel
      · rintro ⟨q, z0, z1, z2, z3⟩
        refine ⟨q, fun i hi => ?_⟩
        have ci : i = 0 ∨ i = 1 ∨ i = 2 ∨ i = 3 := by omega
        rcases ci with rfl | rfl | rfl | rfl
        · exact gi _ _ (by decide +kernel) _ z0
        · exact gi _ _ (by decide +kernel) _ z1
        · exact gi _ _ (by decide +kernel) _ z2
        · exact gi _ _ (by decide +kernel) _ z3
    · rw [show vN 3 = 659105125 from rfl, wm_3 t1 t6 hl, show (vTx 3).length = 6 from by decide +kernel]
      constructor
      · intro q
        refine ⟨q.1, ?_, ?_, ?_, ?_, ?_, ?_⟩
        · rw [q.2 0 (by decide)]; decide +kernel
        · rw [q.2 1 (by decide)]; decide +kernel
        · rw [q.2 2 (by decide)]; decide +kernel
        · rw [q.2 3 (by decide)]; decide +kernel
        · rw [q.2 4 (by decide)]; decide +kernel
        · rw [q.2 5 (by decide)]; decide +kernel
      · rintro ⟨q, z0, z1, z2, z3, z4, z5⟩
        refine ⟨q, fun i hi => ?_⟩
        have ci : i = 0 ∨ i = 1 ∨ i = 2 ∨ i = 3 ∨ i = 4 ∨ i = 5 := by omega
        rcases ci with rfl | rfl | rfl | rfl | rfl | rfl
        · exact gi _ _ (by decide +kernel) _ z0
        · exact gi _ _ (by decide +kernel) _ z1
        · exact gi _ _ (by decide +kernel) _ z2
        · exact gi _ _ (by decide +kernel) _ z3
        · exact gi _ _ (by decide +kernel) _ z4
        · exact gi _ _ (by decide +kernel) _ z5
    · rw [show vN 4 = 197932 from rfl, wm_4 t1 t6 hl, show (vTx 4).length = 4 from by decide +kernel]
      constructor
      · intro q
        refine ⟨q.1, ?_, ?_, ?_, ?_⟩
        · rw [q.2 0 (by decide)]; decide +kernel
        · rw [q.2 1 (by decide)]; decide +kernel
        · rw [q.2 2 (by decide)]; decide +kernel
        · rw [q.2 3 (by decide)]; decide +kernel
      · rintro ⟨q, z0, z1, z2, z3⟩
        refine ⟨q, fun i hi => ?_⟩
        have ci : i = 0 ∨ i = 1 ∨ i = 2 ∨ i = 3 := by omega
        rcases ci with rfl | rfl | rfl | rfl
        · exact gi _ _ (by decide +kernel) _ z0
        · exact gi _ _ (by decide +kernel) _ z1
        · exact gi _ _ (by decide +kernel) _ z2
        · exact gi _ _ (by decide +kernel) _ z3
    · rw [show vN 5 = 14137992 from rfl, wm_5 t1 t6 hl, show (vTx 5).length = 5 from by decide +kernel]
      constructor
      · intro q
        refine ⟨q.1, ?_, ?_, ?_, ?_, ?_⟩
        · rw [q.2 0 (by decide)]; decide +kernel
        · rw [q.2 1 (by decide)]; decide +kernel
        · rw [q.2 2 (by decide)]; decide +kernel
        · rw [q.2 3 (by decide)]; decide +kernel
        · rw [q.2 4 (by decide)]; decide +kernel
      · rintro ⟨q, z0, z1, z2, z3, z4⟩
        refine ⟨q, fun i hi => ?_⟩
        have ci : i = 0 ∨ i = 1 ∨ i = 2 ∨ i = 3 ∨ i = 4 := by omega
        rcases ci with rfl | rfl | rfl | rfl | rfl
        · exact gi _ _ (by decide +kernel) _ z0
        · exact gi _ _ (by decide +kernel) _ z1
        · exact gi _ _ (by decide +kernel) _ z2
        · exact gi _ _ (by decide +kernel) _ z3
        · exact gi _ _ (by decide +kernel) _ z4
    · rw [show vN 6 = 542622085 from rfl, wm_6 t1 t6 hl, show (vTx 6).length = 6 from by decide +kernel]
      constructor
      · intro q
        refine ⟨q.1, ?_, ?_, ?_, ?_, ?_, ?_⟩
        · rw [q.2 0 (by decide)]; decide +kernel
        · rw [q.2 1 (by decide)]; decide +kernel
        · rw [q.2 2 (by decide)]; decide +kernel
        · rw [q.2 3 (by decide)]; decide +kernel
        · rw [q.2 4 (by decide)]; decide +kernel
        · rw [q.2 5 (by decide)]; decide +kernel
      · rintro ⟨q, z0, z1, z2, z3, z4, z5⟩
        refine ⟨q, fun i hi => ?_⟩
        have ci : i = 0 ∨ i = 1 ∨ i = 2 ∨ i = 3 ∨ i = 4 ∨ i = 5 := by omega
        rcases ci with rfl | rfl | rfl | rfl | rfl | rfl
        · exact gi _ _ (by decide +kernel) _ z0
        · exact gi _ _ (by decide +kernel) _ z1
        · exact gi _ _ (by decide +kernel) _ z2
        · exact gi _ _ (by decide +kernel) _ z3
        · exact gi _ _ (by decide +kernel) _ z4
        · exact gi _ _ (by decide +kernel) _ z5
    · rw [show vN 7 = 769604 from rfl, wm_7 t1 t6 hl, show (vTx 7).length = 4 from by decide +kernel]
      constructor
      · intro q
        refine ⟨q.1, ?_, ?_, ?_, ?_⟩
        · rw [q.2 0 (by decide)]; decide +kernel
        · rw [q.2 1 (by decide)]; decide +kernel
        · rw [q.2 2 (by decide)]; decide +kernel
        · rw [q.2 3 (by decide)]; decide +kernel
      · rintro ⟨q, z0, z1, z2, z3⟩
        refine ⟨q, fun i hi => ?_⟩
        have ci : i = 0 ∨ i = 1 ∨ i = 2 ∨ i = 3 := by omega
        rcases ci with rfl | rfl | rfl | rfl
        · exact gi _ _ (by decide +kernel) _ z0
        · exact gi _ _ (by decide +kernel) _ z1
        · exact gi _ _ (by decide +kernel) _ z2
        · exact gi _ _ (by decide +kernel) _ z3
    · rw [show vN 8 = 1420 from rfl, wm_8 t1 t6 hl, show (vTx 8).length = 3 from by decide +kernel]
      constructor
      · intro q
        refine ⟨q.1, ?_, ?_, ?_⟩
        · rw [q.2 0 (by decide)]; decide +kernel
        · rw [q.2 1 (by decide)]; decide +kernel
        · rw [q.2 2 (by decide)]; decide +kernel
      · rintro ⟨q, z0, z1, z2⟩
        refine ⟨q, fun i hi => ?_⟩
        have ci : i = 0 ∨ i = 1 ∨ i = 2 := by omega
        rcases ci with rfl | rfl | rfl
        · exact gi _ _ (by decide +kernel) _ z0
        · exact gi _ _ (by decide +kernel) _ z1
        · exact gi _ _ (by decide +kernel) _ z2
    · rw [show vN 9 = 6309 from rfl, wm_9 t1 t6 hl, show (vTx 9).length = 3 from by decide +kernel]
      constructor
      · intro q
        refine ⟨q.1, ?_, ?_, ?_⟩
        · rw [q.2 0 (by decide)]; decide +kernel
        · rw [q.2 1 (by decide)]; decide +kernel
        · rw [q.2 2 (by decide)]; decide +kernel
      · rintro ⟨q, z0, z1, z2⟩
        refine ⟨q, fun i hi => ?_⟩
        have ci : i = 0 ∨ i = 1 ∨ i = 2 := by omega
        rcases ci with rfl | rfl | rfl
        · exact gi _ _ (by decide +kernel) _ z0
        · exact gi _ _ (by decide +kernel) _ z1
        · exact gi _ _ (by decide +kernel) _ z2
    · rw [show vN 10 = 599659 from rfl, wm_10 t1 t6 hl, show (vTx 10).length = 4 from by decide +kernel]
      constructor
      · intro q
        refine ⟨q.1, ?_, ?_, ?_, ?_⟩
        · rw [q.2 0 (by decide)]; decide +kernel
        · rw [q.2 1 (by decide)]; decide +kernel
        · rw [q.2 2 (by decide)]; decide +kernel
        · rw [q.2 3 (by decide)]; decide +kernel
      · rintro ⟨q, z0, z1, z2, z3⟩
        refine ⟨q, fun i hi => ?_⟩
        have ci : i = 0 ∨ i = 1 ∨ i = 2 ∨ i = 3 := by omega
        rcases ci with rfl | rfl | rfl | rfl
        · exact gi _ _ (by decide +kernel) _ z0
        · exact gi _ _ (by decide +kernel) _ z1
        · exact gi _ _ (by decide +kernel) _ z2
        · exact gi _ _ (by decide +kernel) _ z3
    · rw [show vN 11 = 20317291 from rfl, wm_11 t1 t6 hl, show (vTx 11).length = 5 from by decide +kernel]
      constructor
      · intro q
        refine ⟨q.1, ?_, ?_, ?_, ?_, ?_⟩
        · rw [q.2 0 (by decide)]; decide +kernel
        · rw [q.2 1 (by decide)]; decide +kernel
        · rw [q.2 2 (by decide)]; decide +kernel
        · rw [q.2 3 (by decide)]; decide +kernel
        · rw [q.2 4 (by decide)]; decide +kernel
      · rintro ⟨q, z0, z1, z2, z3, z4⟩
        refine ⟨q, fun i hi => ?_⟩
        have ci : i = 0 ∨ i = 1 ∨ i = 2 ∨ i = 3 ∨ i = 4 := by omega
        rcases ci with rfl | rfl | rfl | rfl | rfl
        · exact gi _ _ (by decide +kernel) _ z0
        · exact gi _ _ (by decide +kernel) _ z1
        · exact gi _ _ (by decide +kernel) _ z2
        · exact gi _ _ (by decide +kernel) _ z3
        · exact gi _ _ (by decide +kernel) _ z4
    · rw [show vN 12 = 755156 from rfl, wm_12 t1 t6 hl, show (vTx 12).length = 4 from by decide +kernel]
      constructor
      · intro q
        refine ⟨q.1, ?_, ?_, ?_, ?_⟩
        · rw [q.2 0 (by decide)]; decide +kernel
        · rw [q.2 1 (by decide)]; decide +kernel
        · rw [q.2 2 (by decide)]; decide +kernel
        · rw [q.2 3 (by decide)]; decide +kernel
      · rintro ⟨q, z0, z1, z2, z3⟩
        refine ⟨q, fun i hi => ?_⟩
        have ci : i = 0 ∨ i = 1 ∨ i = 2 ∨ i = 3 := by omega
        rcases ci with rfl | rfl | rfl | rfl
        · exact gi _ _ (by decide +kernel) _ z0
        · exact gi _ _ (by decide +kernel) _ z1
        · exact gi _ _ (by decide +kernel) _ z2
        · exact gi _ _ (by decide +kernel) _ z3
  · unfold wdC
    rw [if_neg c6]
    refine ⟨fun q => absurd q.1 (by omega), fun q => absurd q.symm n99⟩
/-- the class's verb, by the code -/
def vbR (b : Bool) (c : Int32) : Int := if b = true then (if 1 ≤ c.toInt ∧ c.toInt ≤ 7 then c.toInt + 5 else -1) else (if 11 ≤ c.toInt ∧ c.toInt ≤ 16 then c.toInt - 11 else -1)
end FG
