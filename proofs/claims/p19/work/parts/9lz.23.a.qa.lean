/-! ===== decode, by bytes that are known ===== -/
section KXA
variable {code : ByteArray} {s pc b k n m : Nat} {g : Nat → Nat} {x : Int} {i : Instr}
def bT (code : ByteArray) (s b : Nat) : Prop := ∃ h : s < code.size, (code[s]'h).toNat = b
theorem u1_q (h : bT code s b) : (Reader.u1 : Decoder Nat) code s = .ok (b, s + 1) := by
  obtain ⟨h, e⟩ := h
  show (dite (s < code.size) (fun h => (do set (s + 1); pure (code[s]'h).toNat : Decoder Nat)) (fun _ => throw (HasTruncated.truncated s))) code s = _
  rw [dif_pos h]
  show Except.ok ((code[s]'h).toNat, s + 1) = _
  rw [e]
theorem u2_q (h0 : bT code s b) (h1 : bT code (s + 1) k) : (Reader.u2 : Decoder Nat) code s = .ok (b * 256 + k, s + 2) := by
  show Except.bind ((Reader.u1 : Decoder Nat) code s) _ = _
  rw [u1_q h0]
  show Except.bind ((Reader.u1 : Decoder Nat) code (s + 1)) _ = _
  rw [u1_q h1]
  rfl
theorem s1_q (h0 : bT code s b) (e : Reader.signed 8 b = x) : (Reader.s1 : Decoder Int) code s = .ok (x, s + 1) := by
  show Except.bind ((Reader.u1 : Decoder Nat) code s) _ = _
  rw [u1_q h0, ← e]
  rfl
theorem s2_q (h0 : bT code s b) (h1 : bT code (s + 1) k) (e : Reader.signed 16 (b * 256 + k) = x) : (Reader.s2 : Decoder Int) code s = .ok (x, s + 2) := by
  show Except.bind ((Reader.u2 : Decoder Nat) code s) _ = _
  rw [u2_q h0 h1, ← e]
  rfl
theorem dc_q (h : Decoder.instr pc code pc = .ok (i, pc + n)) : decode code pc = .ok (i, n) := by
  show Except.bind (Decoder.instr pc code pc) _ = _
  rw [h]
  show Except.ok (i, pc + n - pc) = _
  rw [Nat.add_sub_cancel_left]
def cB (b : Bool) (n : Nat) : Option Nat := cond b (some n) none
theorem cB_t {b : Bool} (h : cB b n = some m) : b = true ∧ m = n := by
  cases b with
  | false => cases h
  | true => cases h; exact ⟨rfl, rfl⟩
def bA (code : ByteArray) (g : Nat → Nat) : Prop := ∀ j, j < code.size → bT code j (g j)
theorem q0 {I : Instr} (hB : bA code g) (h : cB (Nat.beq (g pc) b) 1 = some n) (hs : pc + n ≤ code.size) (hk : (Reader.u1 : Decoder Nat) code pc = .ok (b, pc + 1) → Decoder.instr pc code pc = .ok (I, pc + 1)) : decode code pc = .ok (I, n) := by
  obtain ⟨hh, e⟩ := cB_t h
  subst e
  have hh := Nat.eq_of_beq_eq_true hh
  refine dc_q (hk ?_)
  rw [← hh]
  exact u1_q (hB pc (by omega))
theorem q1 {I : Instr} (hB : bA code g) (h : cB (Nat.beq (g pc) b && Nat.beq (g (pc + 1)) k) 2 = some n) (hs : pc + n ≤ code.size) (hk : (Reader.u1 : Decoder Nat) code pc = .ok (b, pc + 1) → (Reader.u1 : Decoder Nat) code (pc + 1) = .ok (k, pc + 2) → Decoder.instr pc code pc = .ok (I, pc + 2)) : decode code pc = .ok (I, n) := by
  obtain ⟨hh, e⟩ := cB_t h
  subst e
  rw [Bool.and_eq_true] at hh
  refine dc_q (hk ?_ ?_)
  · rw [← Nat.eq_of_beq_eq_true hh.1]; exact u1_q (hB pc (by omega))
  · rw [← Nat.eq_of_beq_eq_true hh.2]; exact u1_q (hB (pc + 1) (by omega))
theorem q1s {I : Instr} (hB : bA code g) (h : cB (Nat.beq (g pc) b && decide (Reader.signed 8 (g (pc + 1)) = x)) 2 = some n) (hs : pc + n ≤ code.size) (hk : (Reader.u1 : Decoder Nat) code pc = .ok (b, pc + 1) → (Reader.s1 : Decoder Int) code (pc + 1) = .ok (x, pc + 2) → Decoder.instr pc code pc = .ok (I, pc + 2)) : decode code pc = .ok (I, n) := by
  obtain ⟨hh, e⟩ := cB_t h
  subst e
  rw [Bool.and_eq_true] at hh
  refine dc_q (hk ?_ ?_)
  · rw [← Nat.eq_of_beq_eq_true hh.1]; exact u1_q (hB pc (by omega))
  · exact s1_q (hB (pc + 1) (by omega)) (of_decide_eq_true hh.2)
theorem q2 {I : Instr} (hB : bA code g) (h : cB (Nat.beq (g pc) b && Nat.beq (g (pc + 1) * 256 + g (pc + 2)) k) 3 = some n) (hs : pc + n ≤ code.size) (hk : (Reader.u1 : Decoder Nat) code pc = .ok (b, pc + 1) → (Reader.u2 : Decoder Nat) code (pc + 1) = .ok (k, pc + 3) → Decoder.instr pc code pc = .ok (I, pc + 3)) : decode code pc = .ok (I, n) := by
  obtain ⟨hh, e⟩ := cB_t h
  subst e
  rw [Bool.and_eq_true] at hh
  refine dc_q (hk ?_ ?_)
  · rw [← Nat.eq_of_beq_eq_true hh.1]; exact u1_q (hB pc (by omega))
  · rw [← Nat.eq_of_beq_eq_true hh.2]; exact u2_q (hB (pc + 1) (by omega)) (hB (pc + 2) (by omega))
theorem q2s {I : Instr} (hB : bA code g) (h : cB (Nat.beq (g pc) b && decide (Reader.signed 16 (g (pc + 1) * 256 + g (pc + 2)) = x)) 3 = some n) (hs : pc + n ≤ code.size) (hk : (Reader.u1 : Decoder Nat) code pc = .ok (b, pc + 1) → (Reader.s2 : Decoder Int) code (pc + 1) = .ok (x, pc + 3) → Decoder.instr pc code pc = .ok (I, pc + 3)) : decode code pc = .ok (I, n) := by
  obtain ⟨hh, e⟩ := cB_t h
  subst e
  rw [Bool.and_eq_true] at hh
  refine dc_q (hk ?_ ?_)
  · rw [← Nat.eq_of_beq_eq_true hh.1]; exact u1_q (hB pc (by omega))
  · exact s2_q (hB (pc + 1) (by omega)) (hB (pc + 2) (by omega)) (of_decide_eq_true hh.2)
theorem q3 {I : Instr} (hB : bA code g) (h : cB (Nat.beq (g pc) b && (Nat.beq (g (pc + 1)) k && decide (Reader.signed 8 (g (pc + 2)) = x))) 3 = some n) (hs : pc + n ≤ code.size) (hk : (Reader.u1 : Decoder Nat) code pc = .ok (b, pc + 1) → (Reader.u1 : Decoder Nat) code (pc + 1) = .ok (k, pc + 2) → (Reader.s1 : Decoder Int) code (pc + 2) = .ok (x, pc + 3) → Decoder.instr pc code pc = .ok (I, pc + 3)) : decode code pc = .ok (I, n) := by
  obtain ⟨hh, e⟩ := cB_t h
  subst e
  rw [Bool.and_eq_true, Bool.and_eq_true] at hh
  refine dc_q (hk ?_ ?_ ?_)
  · rw [← Nat.eq_of_beq_eq_true hh.1]; exact u1_q (hB pc (by omega))
  · rw [← Nat.eq_of_beq_eq_true hh.2.1]; exact u1_q (hB (pc + 1) (by omega))
  · exact s1_q (hB (pc + 2) (by omega)) (of_decide_eq_true hh.2.2)
def cdN : Jvm.ClassFile.Cond → Nat
  | .eq => 0
  | .ne => 1
  | .lt => 2
  | .ge => 3
  | .gt => 4
  | .le => 5
def cbI (g : Nat → Nat) (pc : Nat) : Instr → Option Nat
  | .aaload => cB (Nat.beq (g pc) 50) 1
  | .aastore => cB (Nat.beq (g pc) 83) 1
  | .aconst_null => cB (Nat.beq (g pc) 1) 1
  | .aload k => cB (Nat.beq (g pc) 25 && Nat.beq (g (pc + 1)) k) 2
  | .aload_n k => cB (Nat.beq (g pc) (42 + k.val)) 1
  | .anewarray k => cB (Nat.beq (g pc) 189 && Nat.beq (g (pc + 1) * 256 + g (pc + 2)) k) 3
  | .areturn => cB (Nat.beq (g pc) 176) 1
  | .arraylength => cB (Nat.beq (g pc) 190) 1
  | .astore k => cB (Nat.beq (g pc) 58 && Nat.beq (g (pc + 1)) k) 2
  | .astore_n k => cB (Nat.beq (g pc) (75 + k.val)) 1
  | .athrow => cB (Nat.beq (g pc) 191) 1
  | .baload => cB (Nat.beq (g pc) 51) 1
  | .bastore => cB (Nat.beq (g pc) 84) 1
  | .bipush x => cB (Nat.beq (g pc) 16 && decide (Reader.signed 8 (g (pc + 1)) = x)) 2
  | .dup => cB (Nat.beq (g pc) 89) 1
  | .dup2 => cB (Nat.beq (g pc) 92) 1
  | .getfield k => cB (Nat.beq (g pc) 180 && Nat.beq (g (pc + 1) * 256 + g (pc + 2)) k) 3
  | .getstatic k => cB (Nat.beq (g pc) 178 && Nat.beq (g (pc + 1) * 256 + g (pc + 2)) k) 3
  | .goto x => cB (Nat.beq (g pc) 167 && decide (Reader.signed 16 (g (pc + 1) * 256 + g (pc + 2)) = x)) 3
  | .i2b => cB (Nat.beq (g pc) 145) 1
  | .i2c => cB (Nat.beq (g pc) 146) 1
  | .i2l => cB (Nat.beq (g pc) 133) 1
  | .iadd => cB (Nat.beq (g pc) 96) 1
  | .iaload => cB (Nat.beq (g pc) 46) 1
  | .iand => cB (Nat.beq (g pc) 126) 1
  | .iastore => cB (Nat.beq (g pc) 79) 1
  | .iconst x => cB (Nat.ble 2 (g pc) && (Nat.ble (g pc) 8 && decide (((g pc : Nat) : Int) = x + 3))) 1
  | .idiv => cB (Nat.beq (g pc) 108) 1
  | .ifCond c x => cB (Nat.beq (g pc) (153 + cdN c) && decide (Reader.signed 16 (g (pc + 1) * 256 + g (pc + 2)) = x)) 3
  | .if_icmp c x => cB (Nat.beq (g pc) (159 + cdN c) && decide (Reader.signed 16 (g (pc + 1) * 256 + g (pc + 2)) = x)) 3
  | .ifnonnull x => cB (Nat.beq (g pc) 199 && decide (Reader.signed 16 (g (pc + 1) * 256 + g (pc + 2)) = x)) 3
  | .ifnull x => cB (Nat.beq (g pc) 198 && decide (Reader.signed 16 (g (pc + 1) * 256 + g (pc + 2)) = x)) 3
  | .iinc k x => cB (Nat.beq (g pc) 132 && (Nat.beq (g (pc + 1)) k && decide (Reader.signed 8 (g (pc + 2)) = x))) 3
  | .iload k => cB (Nat.beq (g pc) 21 && Nat.beq (g (pc + 1)) k) 2
  | .iload_n k => cB (Nat.beq (g pc) (26 + k.val)) 1
  | .imul => cB (Nat.beq (g pc) 104) 1
  | .ineg => cB (Nat.beq (g pc) 116) 1
  | .invokespecial k => cB (Nat.beq (g pc) 183 && Nat.beq (g (pc + 1) * 256 + g (pc + 2)) k) 3
  | .invokestatic k => cB (Nat.beq (g pc) 184 && Nat.beq (g (pc + 1) * 256 + g (pc + 2)) k) 3
  | .invokevirtual k => cB (Nat.beq (g pc) 182 && Nat.beq (g (pc + 1) * 256 + g (pc + 2)) k) 3
  | .ior => cB (Nat.beq (g pc) 128) 1
  | .irem => cB (Nat.beq (g pc) 112) 1
  | .ireturn => cB (Nat.beq (g pc) 172) 1
  | .ishl => cB (Nat.beq (g pc) 120) 1
  | .ishr => cB (Nat.beq (g pc) 122) 1
  | .istore k => cB (Nat.beq (g pc) 54 && Nat.beq (g (pc + 1)) k) 2
  | .istore_n k => cB (Nat.beq (g pc) (59 + k.val)) 1
  | .isub => cB (Nat.beq (g pc) 100) 1
  | .iushr => cB (Nat.beq (g pc) 124) 1
  | .ixor => cB (Nat.beq (g pc) 130) 1
  | .lcmp => cB (Nat.beq (g pc) 148) 1
  | .lconst k => cB (Nat.beq (g pc) (9 + k.val)) 1
  | .ldc k => cB (Nat.beq (g pc) 18 && Nat.beq (g (pc + 1)) k) 2
  | .ldc2_w k => cB (Nat.beq (g pc) 20 && Nat.beq (g (pc + 1) * 256 + g (pc + 2)) k) 3
  | .ldc_w k => cB (Nat.beq (g pc) 19 && Nat.beq (g (pc + 1) * 256 + g (pc + 2)) k) 3
  | .lload k => cB (Nat.beq (g pc) 22 && Nat.beq (g (pc + 1)) k) 2
  | .lload_n k => cB (Nat.beq (g pc) (30 + k.val)) 1
  | .lmul => cB (Nat.beq (g pc) 105) 1
  | .lreturn => cB (Nat.beq (g pc) 173) 1
  | .lstore k => cB (Nat.beq (g pc) 55 && Nat.beq (g (pc + 1)) k) 2
  | .lstore_n k => cB (Nat.beq (g pc) (63 + k.val)) 1
  | .new k => cB (Nat.beq (g pc) 187 && Nat.beq (g (pc + 1) * 256 + g (pc + 2)) k) 3
  | .pop => cB (Nat.beq (g pc) 87) 1
  | .putfield k => cB (Nat.beq (g pc) 181 && Nat.beq (g (pc + 1) * 256 + g (pc + 2)) k) 3
  | .return_ => cB (Nat.beq (g pc) 177) 1
  | .sipush x => cB (Nat.beq (g pc) 17 && decide (Reader.signed 16 (g (pc + 1) * 256 + g (pc + 2)) = x)) 3
  | _ => none
set_option maxRecDepth 10000 in
theorem cbI_ok (hB : bA code g) : ∀ (i : Instr) (n : Nat), cbI g pc i = some n → pc + n ≤ code.size → decode code pc = .ok (i, n) := by
  intro i
  cases i with
  | aaload => exact fun n h hs => q0 hB h hs (fun e => by show Except.bind ((Reader.u1 : Decoder Nat) code pc) _ = _; rw [e]; rfl)
  | aastore => exact fun n h hs => q0 hB h hs (fun e => by show Except.bind ((Reader.u1 : Decoder Nat) code pc) _ = _; rw [e]; rfl)
  | aconst_null => exact fun n h hs => q0 hB h hs (fun e => by show Except.bind ((Reader.u1 : Decoder Nat) code pc) _ = _; rw [e]; rfl)
  | aload k => exact fun n h hs => q1 hB h hs (fun e e2 => by show Except.bind ((Reader.u1 : Decoder Nat) code pc) _ = _; rw [e]; show Except.bind ((Reader.u1 : Decoder Nat) code (pc + 1)) _ = _; rw [e2]; rfl)
  | aload_n k =>
    intro n h hs
    rcases k with ⟨k, hk⟩
    have q : k = 0 ∨ k = 1 ∨ k = 2 ∨ k = 3 := by omega
    rcases q with rfl | rfl | rfl | rfl <;> exact q0 hB h hs (fun e => by show Except.bind ((Reader.u1 : Decoder Nat) code pc) _ = _; rw [e]; rfl)
  | anewarray k => exact fun n h hs => q2 hB h hs (fun e e2 => by show Except.bind ((Reader.u1 : Decoder Nat) code pc) _ = _; rw [e]; show Except.bind ((Reader.u2 : Decoder Nat) code (pc + 1)) _ = _; rw [e2]; rfl)
  | areturn => exact fun n h hs => q0 hB h hs (fun e => by show Except.bind ((Reader.u1 : Decoder Nat) code pc) _ = _; rw [e]; rfl)
  | arraylength => exact fun n h hs => q0 hB h hs (fun e => by show Except.bind ((Reader.u1 : Decoder Nat) code pc) _ = _; rw [e]; rfl)
  | astore k => exact fun n h hs => q1 hB h hs (fun e e2 => by show Except.bind ((Reader.u1 : Decoder Nat) code pc) _ = _; rw [e]; show Except.bind ((Reader.u1 : Decoder Nat) code (pc + 1)) _ = _; rw [e2]; rfl)
  | astore_n k =>
    intro n h hs
    rcases k with ⟨k, hk⟩
    have q : k = 0 ∨ k = 1 ∨ k = 2 ∨ k = 3 := by omega
    rcases q with rfl | rfl | rfl | rfl <;> exact q0 hB h hs (fun e => by show Except.bind ((Reader.u1 : Decoder Nat) code pc) _ = _; rw [e]; rfl)
  | athrow => exact fun n h hs => q0 hB h hs (fun e => by show Except.bind ((Reader.u1 : Decoder Nat) code pc) _ = _; rw [e]; rfl)
  | baload => exact fun n h hs => q0 hB h hs (fun e => by show Except.bind ((Reader.u1 : Decoder Nat) code pc) _ = _; rw [e]; rfl)
  | bastore => exact fun n h hs => q0 hB h hs (fun e => by show Except.bind ((Reader.u1 : Decoder Nat) code pc) _ = _; rw [e]; rfl)
  | bipush x => exact fun n h hs => q1s hB h hs (fun e e2 => by show Except.bind ((Reader.u1 : Decoder Nat) code pc) _ = _; rw [e]; show Except.bind ((Reader.s1 : Decoder Int) code (pc + 1)) _ = _; rw [e2]; rfl)
  | dup => exact fun n h hs => q0 hB h hs (fun e => by show Except.bind ((Reader.u1 : Decoder Nat) code pc) _ = _; rw [e]; rfl)
  | dup2 => exact fun n h hs => q0 hB h hs (fun e => by show Except.bind ((Reader.u1 : Decoder Nat) code pc) _ = _; rw [e]; rfl)
  | getfield k => exact fun n h hs => q2 hB h hs (fun e e2 => by show Except.bind ((Reader.u1 : Decoder Nat) code pc) _ = _; rw [e]; show Except.bind ((Reader.u2 : Decoder Nat) code (pc + 1)) _ = _; rw [e2]; rfl)
  | getstatic k => exact fun n h hs => q2 hB h hs (fun e e2 => by show Except.bind ((Reader.u1 : Decoder Nat) code pc) _ = _; rw [e]; show Except.bind ((Reader.u2 : Decoder Nat) code (pc + 1)) _ = _; rw [e2]; rfl)
  | goto x => exact fun n h hs => q2s hB h hs (fun e e2 => by show Except.bind ((Reader.u1 : Decoder Nat) code pc) _ = _; rw [e]; show Except.bind ((Reader.s2 : Decoder Int) code (pc + 1)) _ = _; rw [e2]; rfl)
  | i2b => exact fun n h hs => q0 hB h hs (fun e => by show Except.bind ((Reader.u1 : Decoder Nat) code pc) _ = _; rw [e]; rfl)
  | i2c => exact fun n h hs => q0 hB h hs (fun e => by show Except.bind ((Reader.u1 : Decoder Nat) code pc) _ = _; rw [e]; rfl)
  | i2l => exact fun n h hs => q0 hB h hs (fun e => by show Except.bind ((Reader.u1 : Decoder Nat) code pc) _ = _; rw [e]; rfl)
  | iadd => exact fun n h hs => q0 hB h hs (fun e => by show Except.bind ((Reader.u1 : Decoder Nat) code pc) _ = _; rw [e]; rfl)
  | iaload => exact fun n h hs => q0 hB h hs (fun e => by show Except.bind ((Reader.u1 : Decoder Nat) code pc) _ = _; rw [e]; rfl)
  | iand => exact fun n h hs => q0 hB h hs (fun e => by show Except.bind ((Reader.u1 : Decoder Nat) code pc) _ = _; rw [e]; rfl)
  | iastore => exact fun n h hs => q0 hB h hs (fun e => by show Except.bind ((Reader.u1 : Decoder Nat) code pc) _ = _; rw [e]; rfl)
  | iconst x =>
    intro n h hs
    obtain ⟨h, e⟩ := cB_t h
    rw [Bool.and_eq_true, Bool.and_eq_true] at h
    have h1 := Nat.le_of_ble_eq_true h.1
    have h2 := Nat.le_of_ble_eq_true h.2.1
    have h3 := of_decide_eq_true h.2.2
    have q : (g pc = 2 ∧ x = -1) ∨ (g pc = 3 ∧ x = 0) ∨ (g pc = 4 ∧ x = 1) ∨ (g pc = 5 ∧ x = 2) ∨ (g pc = 6 ∧ x = 3) ∨ (g pc = 7 ∧ x = 4) ∨ (g pc = 8 ∧ x = 5) := by omega
    rcases q with ⟨q, rfl⟩ | ⟨q, rfl⟩ | ⟨q, rfl⟩ | ⟨q, rfl⟩ | ⟨q, rfl⟩ | ⟨q, rfl⟩ | ⟨q, rfl⟩
    · exact q0 (b := 2) hB (by rw [q, e]; rfl) hs (fun e => by show Except.bind ((Reader.u1 : Decoder Nat) code pc) _ = _; rw [e]; rfl)
    · exact q0 (b := 3) hB (by rw [q, e]; rfl) hs (fun e => by show Except.bind ((Reader.u1 : Decoder Nat) code pc) _ = _; rw [e]; rfl)
    · exact q0 (b := 4) hB (by rw [q, e]; rfl) hs (fun e => by show Except.bind ((Reader.u1 : Decoder Nat) code pc) _ = _; rw [e]; rfl)
    · exact q0 (b := 5) hB (by rw [q, e]; rfl) hs (fun e => by show Except.bind ((Reader.u1 : Decoder Nat) code pc) _ = _; rw [e]; rfl)
    · exact q0 (b := 6) hB (by rw [q, e]; rfl) hs (fun e => by show Except.bind ((Reader.u1 : Decoder Nat) code pc) _ = _; rw [e]; rfl)
    · exact q0 (b := 7) hB (by rw [q, e]; rfl) hs (fun e => by show Except.bind ((Reader.u1 : Decoder Nat) code pc) _ = _; rw [e]; rfl)
    · exact q0 (b := 8) hB (by rw [q, e]; rfl) hs (fun e => by show Except.bind ((Reader.u1 : Decoder Nat) code pc) _ = _; rw [e]; rfl)
  | idiv => exact fun n h hs => q0 hB h hs (fun e => by show Except.bind ((Reader.u1 : Decoder Nat) code pc) _ = _; rw [e]; rfl)
  | ifCond c x =>
    intro n h hs
    cases c <;> exact q2s hB h hs (fun e e2 => by show Except.bind ((Reader.u1 : Decoder Nat) code pc) _ = _; rw [e]; show Except.bind ((Reader.s2 : Decoder Int) code (pc + 1)) _ = _; rw [e2]; rfl)
  | if_icmp c x =>
    intro n h hs
    cases c <;> exact q2s hB h hs (fun e e2 => by show Except.bind ((Reader.u1 : Decoder Nat) code pc) _ = _; rw [e]; show Except.bind ((Reader.s2 : Decoder Int) code (pc + 1)) _ = _; rw [e2]; rfl)
  | ifnonnull x => exact fun n h hs => q2s hB h hs (fun e e2 => by show Except.bind ((Reader.u1 : Decoder Nat) code pc) _ = _; rw [e]; show Except.bind ((Reader.s2 : Decoder Int) code (pc + 1)) _ = _; rw [e2]; rfl)
  | ifnull x => exact fun n h hs => q2s hB h hs (fun e e2 => by show Except.bind ((Reader.u1 : Decoder Nat) code pc) _ = _; rw [e]; show Except.bind ((Reader.s2 : Decoder Int) code (pc + 1)) _ = _; rw [e2]; rfl)
  | iinc k x => exact fun n h hs => q3 hB h hs (fun e e2 e3 => by show Except.bind ((Reader.u1 : Decoder Nat) code pc) _ = _; rw [e]; show Except.bind ((Reader.u1 : Decoder Nat) code (pc + 1)) _ = _; rw [e2]; show Except.bind ((Reader.s1 : Decoder Int) code (pc + 2)) _ = _; rw [e3]; rfl)
  | iload k => exact fun n h hs => q1 hB h hs (fun e e2 => by show Except.bind ((Reader.u1 : Decoder Nat) code pc) _ = _; rw [e]; show Except.bind ((Reader.u1 : Decoder Nat) code (pc + 1)) _ = _; rw [e2]; rfl)
  | iload_n k =>
    intro n h hs
    rcases k with ⟨k, hk⟩
    have q : k = 0 ∨ k = 1 ∨ k = 2 ∨ k = 3 := by omega
    rcases q with rfl | rfl | rfl | rfl <;> exact q0 hB h hs (fun e => by show Except.bind ((Reader.u1 : Decoder Nat) code pc) _ = _; rw [e]; rfl)
  | imul => exact fun n h hs => q0 hB h hs (fun e => by show Except.bind ((Reader.u1 : Decoder Nat) code pc) _ = _; rw [e]; rfl)
  | ineg => exact fun n h hs => q0 hB h hs (fun e => by show Except.bind ((Reader.u1 : Decoder Nat) code pc) _ = _; rw [e]; rfl)
  | invokespecial k => exact fun n h hs => q2 hB h hs (fun e e2 => by show Except.bind ((Reader.u1 : Decoder Nat) code pc) _ = _; rw [e]; show Except.bind ((Reader.u2 : Decoder Nat) code (pc + 1)) _ = _; rw [e2]; rfl)
  | invokestatic k => exact fun n h hs => q2 hB h hs (fun e e2 => by show Except.bind ((Reader.u1 : Decoder Nat) code pc) _ = _; rw [e]; show Except.bind ((Reader.u2 : Decoder Nat) code (pc + 1)) _ = _; rw [e2]; rfl)
  | invokevirtual k => exact fun n h hs => q2 hB h hs (fun e e2 => by show Except.bind ((Reader.u1 : Decoder Nat) code pc) _ = _; rw [e]; show Except.bind ((Reader.u2 : Decoder Nat) code (pc + 1)) _ = _; rw [e2]; rfl)
  | ior => exact fun n h hs => q0 hB h hs (fun e => by show Except.bind ((Reader.u1 : Decoder Nat) code pc) _ = _; rw [e]; rfl)
  | irem => exact fun n h hs => q0 hB h hs (fun e => by show Except.bind ((Reader.u1 : Decoder Nat) code pc) _ = _; rw [e]; rfl)
  | ireturn => exact fun n h hs => q0 hB h hs (fun e => by show Except.bind ((Reader.u1 : Decoder Nat) code pc) _ = _; rw [e]; rfl)
  | ishl => exact fun n h hs => q0 hB h hs (fun e => by show Except.bind ((Reader.u1 : Decoder Nat) code pc) _ = _; rw [e]; rfl)
  | ishr => exact fun n h hs => q0 hB h hs (fun e => by show Except.bind ((Reader.u1 : Decoder Nat) code pc) _ = _; rw [e]; rfl)
  | istore k => exact fun n h hs => q1 hB h hs (fun e e2 => by show Except.bind ((Reader.u1 : Decoder Nat) code pc) _ = _; rw [e]; show Except.bind ((Reader.u1 : Decoder Nat) code (pc + 1)) _ = _; rw [e2]; rfl)
  | istore_n k =>
    intro n h hs
    rcases k with ⟨k, hk⟩
    have q : k = 0 ∨ k = 1 ∨ k = 2 ∨ k = 3 := by omega
    rcases q with rfl | rfl | rfl | rfl <;> exact q0 hB h hs (fun e => by show Except.bind ((Reader.u1 : Decoder Nat) code pc) _ = _; rw [e]; rfl)
  | isub => exact fun n h hs => q0 hB h hs (fun e => by show Except.bind ((Reader.u1 : Decoder Nat) code pc) _ = _; rw [e]; rfl)
  | iushr => exact fun n h hs => q0 hB h hs (fun e => by show Except.bind ((Reader.u1 : Decoder Nat) code pc) _ = _; rw [e]; rfl)
  | ixor => exact fun n h hs => q0 hB h hs (fun e => by show Except.bind ((Reader.u1 : Decoder Nat) code pc) _ = _; rw [e]; rfl)
  | lcmp => exact fun n h hs => q0 hB h hs (fun e => by show Except.bind ((Reader.u1 : Decoder Nat) code pc) _ = _; rw [e]; rfl)
  | lconst k =>
    intro n h hs
    rcases k with ⟨k, hk⟩
    have q : k = 0 ∨ k = 1 := by omega
    rcases q with rfl | rfl <;> exact q0 hB h hs (fun e => by show Except.bind ((Reader.u1 : Decoder Nat) code pc) _ = _; rw [e]; rfl)
  | ldc k => exact fun n h hs => q1 hB h hs (fun e e2 => by show Except.bind ((Reader.u1 : Decoder Nat) code pc) _ = _; rw [e]; show Except.bind ((Reader.u1 : Decoder Nat) code (pc + 1)) _ = _; rw [e2]; rfl)
  | ldc2_w k => exact fun n h hs => q2 hB h hs (fun e e2 => by show Except.bind ((Reader.u1 : Decoder Nat) code pc) _ = _; rw [e]; show Except.bind ((Reader.u2 : Decoder Nat) code (pc + 1)) _ = _; rw [e2]; rfl)
  | ldc_w k => exact fun n h hs => q2 hB h hs (fun e e2 => by show Except.bind ((Reader.u1 : Decoder Nat) code pc) _ = _; rw [e]; show Except.bind ((Reader.u2 : Decoder Nat) code (pc + 1)) _ = _; rw [e2]; rfl)
  | lload k => exact fun n h hs => q1 hB h hs (fun e e2 => by show Except.bind ((Reader.u1 : Decoder Nat) code pc) _ = _; rw [e]; show Except.bind ((Reader.u1 : Decoder Nat) code (pc + 1)) _ = _; rw [e2]; rfl)
  | lload_n k =>
    intro n h hs
    rcases k with ⟨k, hk⟩
    have q : k = 0 ∨ k = 1 ∨ k = 2 ∨ k = 3 := by omega
    rcases q with rfl | rfl | rfl | rfl <;> exact q0 hB h hs (fun e => by show Except.bind ((Reader.u1 : Decoder Nat) code pc) _ = _; rw [e]; rfl)
  | lmul => exact fun n h hs => q0 hB h hs (fun e => by show Except.bind ((Reader.u1 : Decoder Nat) code pc) _ = _; rw [e]; rfl)
  | lreturn => exact fun n h hs => q0 hB h hs (fun e => by show Except.bind ((Reader.u1 : Decoder Nat) code pc) _ = _; rw [e]; rfl)
  | lstore k => exact fun n h hs => q1 hB h hs (fun e e2 => by show Except.bind ((Reader.u1 : Decoder Nat) code pc) _ = _; rw [e]; show Except.bind ((Reader.u1 : Decoder Nat) code (pc + 1)) _ = _; rw [e2]; rfl)
  | lstore_n k =>
    intro n h hs
    rcases k with ⟨k, hk⟩
    have q : k = 0 ∨ k = 1 ∨ k = 2 ∨ k = 3 := by omega
    rcases q with rfl | rfl | rfl | rfl <;> exact q0 hB h hs (fun e => by show Except.bind ((Reader.u1 : Decoder Nat) code pc) _ = _; rw [e]; rfl)
  | new k => exact fun n h hs => q2 hB h hs (fun e e2 => by show Except.bind ((Reader.u1 : Decoder Nat) code pc) _ = _; rw [e]; show Except.bind ((Reader.u2 : Decoder Nat) code (pc + 1)) _ = _; rw [e2]; rfl)
  | pop => exact fun n h hs => q0 hB h hs (fun e => by show Except.bind ((Reader.u1 : Decoder Nat) code pc) _ = _; rw [e]; rfl)
  | putfield k => exact fun n h hs => q2 hB h hs (fun e e2 => by show Except.bind ((Reader.u1 : Decoder Nat) code pc) _ = _; rw [e]; show Except.bind ((Reader.u2 : Decoder Nat) code (pc + 1)) _ = _; rw [e2]; rfl)
  | return_ => exact fun n h hs => q0 hB h hs (fun e => by show Except.bind ((Reader.u1 : Decoder Nat) code pc) _ = _; rw [e]; rfl)
  | sipush x => exact fun n h hs => q2s hB h hs (fun e e2 => by show Except.bind ((Reader.u1 : Decoder Nat) code pc) _ = _; rw [e]; show Except.bind ((Reader.s2 : Decoder Int) code (pc + 1)) _ = _; rw [e2]; rfl)
  | _ => intro n h; cases h
/-! the bytes as one number -/
def lEq : List UInt8 → Nat → Bool
  | [], _ => true
  | a :: l, N => Nat.beq a.toNat (Nat.mod N 256) && lEq l (Nat.div N 256)
theorem lEq_ok : ∀ (l : List UInt8) (N j : Nat) (h : j < l.length), lEq l N = true → (l[j]'h).toNat = Nat.mod (Nat.div N (256 ^ j)) 256
  | [], _, _, h, _ => absurd h (Nat.not_lt_zero _)
  | a :: l, N, 0, h, e => by
    have e : (Nat.beq a.toNat (Nat.mod N 256) && lEq l (Nat.div N 256)) = true := e
    rw [Bool.and_eq_true] at e
    show a.toNat = Nat.mod (N / 256 ^ 0) 256
    rw [Nat.eq_of_beq_eq_true e.1, Nat.pow_zero, Nat.div_one]
  | a :: l, N, j + 1, h, e => by
    have e : (Nat.beq a.toNat (Nat.mod N 256) && lEq l (Nat.div N 256)) = true := e
    rw [Bool.and_eq_true] at e
    have q := lEq_ok l (Nat.div N 256) j (Nat.lt_of_succ_lt_succ h) e.2
    show (l[j]'(Nat.lt_of_succ_lt_succ h)).toNat = Nat.mod (N / 256 ^ (j + 1)) 256
    rw [q]
    have e2 : N / 256 ^ (j + 1) = N / 256 / 256 ^ j := by rw [Nat.pow_succ, Nat.mul_comm, Nat.div_div_eq_div_mul]
    exact congrArg (fun z => Nat.mod z 256) e2.symm
theorem bA_of {N : Nat} (h : lEq code.data.toList N = true) : bA code (fun j => Nat.mod (Nat.div N (Nat.pow 256 j)) 256) := fun j hj => ⟨hj, lEq_ok code.data.toList N j hj h⟩
def allUp (P : Nat → Bool) : Nat → Bool
  | 0 => true
  | n + 1 => P n && allUp P n
theorem allUp_ok {P : Nat → Bool} : ∀ n, allUp P n = true → ∀ k, k < n → P k = true
  | 0, _, k, hk => absurd hk (Nat.not_lt_zero k)
  | n + 1, h, k, hk => by
    have h : (P n && allUp P n) = true := h
    rw [Bool.and_eq_true] at h
    by_cases e : k = n
    · rw [e]; exact h.1
    · exact allUp_ok n h.2 k (by omega)
end KXA
