/-! ===== what a program must say of the tables, and the step of one instruction ===== -/
def pm_sz : Instr → Nat
  | .bipush _ | .ldc _ | .iload _ | .lload _ | .aload _ | .istore _ | .lstore _ | .astore _ | .newarray _ => 2
  | .sipush _ | .ldc2_w _ | .iinc _ _ | .goto _ | .ifCond _ _ | .if_icmp _ _ | .ifnull _ | .ifnonnull _ | .getfield _ | .putfield _ | .new _ | .anewarray _ | .invokespecial _ | .invokevirtual _ | .invokestatic _ => 3
  | .tableswitch _ _ _ _ => 0
  | _ => 1
def pm_okD (cd : Nat → ByteArray) (G : pm_G) : Prop := ∀ mi pc i, pm_dec G mi pc = some i → ∃ n, decode (cd mi) pc = .ok (i, n) ∧ (pm_sz i = 0 ∨ n = pm_sz i)
def pm_okC (Tb : List Cond) (cl : List vw_C) : Prop := ∀ (ci : Nat) (q : vw_C), cl[ci]? = some q → (∀ w ∈ u_ws q.1 q.2.1 q.2.2, w ∈ Tb) ∧ (∃ ty : Nat → FieldType, ∀ k, k < q.2.2 → parseFieldDescriptor (q.2.1 k).2.2.1 = some (ty k)) ∧ (∀ a, a < q.2.2 → ∀ b, b < q.2.2 → a ≠ b → (q.2.1 a).2.1 ≠ (q.2.1 b).2.1)
def pm_okF (Tb nws : List Cond) (own : String) (k : Nat) (T : u_T) (j : Nat) : Prop := Cond.fieldLink own k (T j).1 (T j).2.1 (T j).2.2.1 ∈ Tb ∨ ∃ host, Cond.fieldLinkNest own k (T j).1 (T j).2.1 (T j).2.2.1 host ∈ nws
def pm_okG (Tb nws : List Cond) (cl : List vw_C) (y : Nat → MethodName) (G : pm_G) : Prop := ∀ mi k ci j, pm_get G mi k = some (ci, j) → ∃ q : vw_C, cl[ci]? = some q ∧ j < q.2.2 ∧ pm_okF Tb nws (y mi).cls k q.2.1 j
def pm_okP (Tb nws : List Cond) (cl : List vw_C) (y : Nat → MethodName) (G : pm_G) : Prop := ∀ mi k ci j ty, pm_put G mi k = some (ci, j, ty) → ∃ q : vw_C, cl[ci]? = some q ∧ j < q.2.2 ∧ parseFieldDescriptor (q.2.1 j).2.2.1 = some ty ∧
  (((q.2.1 j).2.2.2 = false ∧ pm_okF Tb nws (y mi).cls k q.2.1 j) ∨ ((q.2.1 j).2.2.2 = true ∧ (y mi).name = "<init>" ∧ (q.2.1 j).1 = (y mi).cls ∧ Cond.fieldLink (y mi).cls k (q.2.1 j).1 (q.2.1 j).2.1 (q.2.1 j).2.2.1 ∈ Tb))
def pm_okK (Tb : List Cond) (y : Nat → MethodName) (G : pm_G) : Prop := (∀ mi k v, pm_ldc G mi k = some v → Cond.constant (y mi).cls k v ∈ Tb) ∧ ∀ mi k v, pm_ld2 G mi k = some v → Cond.constantLong (y mi).cls k v ∈ Tb
/-- what stays the same in a method's run -/
def pm_K (D : va_G) (cl : List vw_C) (cA : Nat → ClassId) (tyl : List FieldType) (nws : List Cond) (aos : List String) (U : State) : Prop := va_K D cl (pm_tys cA tyl) U ∧ (∀ w ∈ nws, va_Nw w U) ∧ ∀ C ∈ aos, va_AO C U
def pm_Fx (D : va_G) (cl : List vw_C) (cA : Nat → ClassId) (tyl : List FieldType) (Tb nws : List Cond) (aos : List String) (y : Nat → MethodName) (cd : Nat → ByteArray) (G : pm_G) (b mi : Nat) (p : Program) (s : State) (m : MethodId) (args : Array Value) (meth : Method) (c : Code) : Prop :=
  p.tables.exec = Jvm.exec ∧ c.code = cd mi ∧ meth.sig.returnType = pm_ret G mi ∧ c.maxLocals = pm_max G mi ∧ s.vm.findClass (y mi).cls = some m.cls ∧ (∀ w ∈ Tb, w.before args s = true) ∧ meth.locks = false ∧ meth.name = (y mi).name ∧ pm_K D cl cA tyl nws aos s ∧ b ≤ s.heap.size
section PM
variable {G : pm_G} {tyl : List FieldType} {cl : List vw_C} {D : va_G} {cA : Nat → ClassId} {b : Nat} {Tb nws : List Cond} {aos : List String} {y : Nat → MethodName} {cd : Nat → ByteArray}
variable {p : Program} {l : Launch} {e : Env} {R : Room} {s : State} {m : MethodId} {args : Array Value} {below : List Frame} {meth : Method} {c : Code} {H : Heap} {locs : List Loc} {cells slots : Nat} {Q : State → Prop}
theorem pm_jmp_of {pc : Nat} {off : Int} {ls st : List Value} {w : pm_W} {r : pm_C} (h : pm_jmp pc off ls st w = some r) : ∃ t : Nat, (pc : Int) + off = (t : Int) ∧ r = (t, ls, st, w) := by
  unfold pm_jmp at h
  split at h
  · rename_i h0
    cases h
    exact ⟨_, (Int.toNat_of_nonneg h0).symm, rfl⟩
  · cases h
theorem pm_br_of {P : Prop} [Decidable P] {pc : Nat} {off : Int} {ls st : List Value} {w : pm_W} {r : pm_C} (h : pm_br P pc off ls st w = some r) : ∃ t : Nat, (pc : Int) + off = (t : Int) ∧ ((P ∧ r = (t, ls, st, w)) ∨ (¬ P ∧ r = (pc + 3, ls, st, w))) := by
  unfold pm_br at h
  split at h
  · rename_i h1
    refine ⟨_, (Int.toNat_of_nonneg h1).symm, ?_⟩
    split at h
    · rename_i h0
      cases h
      exact Or.inl ⟨h0, rfl⟩
    · rename_i h0
      cases h
      exact Or.inr ⟨h0, rfl⟩
  · cases h
/-- the goal behind an instruction -/
def pm_Go (D : va_G) (cl : List vw_C) (cA : Nat → ClassId) (b nL : Nat) (p : Program) (l : Launch) (e : Env) (R : Room) (s : State) (m : MethodId) (args : Array Value) (below : List Frame) (meth : Method) (c : Code) (cells slots : Nat) (Q : State → Prop) (r : pm_C) : Prop :=
  ∀ (lsR : Array Slot) (H : Heap) (locs : List Loc), lv_has lsR nL (pm_lv b r.2.1) → r.2.1.length = nL → va_P D cl (pm_ws cA b r.2.2.2) H → va_S (fun q => b ≤ q) s.heap H locs → W p l e R s m args below meth c H locs cells slots Q (F0 m r.1 lsR (r.2.2.1.map (pm_v b)))
variable {mi : Nat} {lsR : Array Slot} {pc : Nat} {ls st : List Value} {w : pm_W} {r : pm_C} {nL : Nat}
theorem pm_iload_ok {i : Nat} {pc' : Nat} (h : pm_iload pc' i ls st w = some r) (hl : lv_has lsR nL (pm_lv b ls)) : ∃ x, lsR[i]? = some (.val (.int x)) ∧ r = (pc', ls, .int x :: st, w) := by
  unfold pm_iload at h
  split at h
  · rename_i x hx
    cases h
    exact ⟨x, pm_lv_at hl hx rfl, rfl⟩
  · cases h
theorem pm_lload_ok {i : Nat} {pc' : Nat} (h : pm_lload pc' i ls st w = some r) (hl : lv_has lsR nL (pm_lv b ls)) : ∃ x, lsR[i]? = some (.val (.long x)) ∧ r = (pc', ls, .long x :: st, w) := by
  unfold pm_lload at h
  split at h
  · rename_i x hx
    cases h
    exact ⟨x, pm_lv_at hl hx rfl, rfl⟩
  · cases h
theorem pm_aload_ok {i : Nat} {pc' : Nat} (h : pm_aload pc' i ls st w = some r) (hl : lv_has lsR nL (pm_lv b ls)) : (∃ x, lsR[i]? = some (.val (.ref (b + x))) ∧ r = (pc', ls, .ref x :: st, w)) ∨ (lsR[i]? = some (.val .null) ∧ r = (pc', ls, .null :: st, w)) := by
  unfold pm_aload at h
  split at h
  · rename_i x hx
    cases h
    exact Or.inl ⟨x, pm_lv_at hl hx rfl, rfl⟩
  · rename_i hx
    cases h
    exact Or.inr ⟨pm_lv_at hl hx rfl, rfl⟩
  · cases h
theorem pm_istore_of {i : Nat} {pc' : Nat} (h : pm_istore pc' i ls st w = some r) : ∃ x st', st = .int x :: st' ∧ i < ls.length ∧ r = (pc', pm_st1 ls i (.int x), st', w) := by
  unfold pm_istore at h
  split at h
  · split at h
    · rename_i hk
      cases h
      exact ⟨_, _, rfl, hk, rfl⟩
    · cases h
  · cases h
theorem pm_lstore_of {i : Nat} {pc' : Nat} (h : pm_lstore pc' i ls st w = some r) : ∃ x st', st = .long x :: st' ∧ i + 1 < ls.length ∧ r = (pc', pm_st2 ls i (.long x), st', w) := by
  unfold pm_lstore at h
  split at h
  · split at h
    · rename_i hk
      cases h
      exact ⟨_, _, rfl, hk, rfl⟩
    · cases h
  · cases h
theorem pm_astore_of {i : Nat} {pc' : Nat} (h : pm_astore pc' i ls st w = some r) : i < ls.length ∧ ((∃ x st', st = .ref x :: st' ∧ r = (pc', pm_st1 ls i (.ref x), st', w)) ∨ ∃ st', st = .null :: st' ∧ r = (pc', pm_st1 ls i .null, st', w)) := by
  unfold pm_astore at h
  split at h
  · split at h
    · rename_i hk
      cases h
      exact ⟨hk, Or.inl ⟨_, _, rfl, rfl⟩⟩
    · cases h
  · split at h
    · rename_i hk
      cases h
      exact ⟨hk, Or.inr ⟨_, rfl, rfl⟩⟩
    · cases h
  · cases h
theorem pm_ii_of {f : Int32 → Int32 → Option Int32} (h : pm_ii pc f ls st w = some r) : ∃ x y z st', st = .int y :: .int x :: st' ∧ f x y = some z ∧ r = (pc + 1, ls, .int z :: st', w) := by
  unfold pm_ii at h
  split at h
  · split at h
    · rename_i hz
      cases h
      exact ⟨_, _, _, _, rfl, hz, rfl⟩
    · cases h
  · cases h
theorem pm_ll_of {f : Int64 → Int64 → Option Int64} (h : pm_ll pc f ls st w = some r) : ∃ x y z st', st = .long y :: .long x :: st' ∧ f x y = some z ∧ r = (pc + 1, ls, .long z :: st', w) := by
  unfold pm_ll at h
  split at h
  · split at h
    · rename_i hz
      cases h
      exact ⟨_, _, _, _, rfl, hz, rfl⟩
    · cases h
  · cases h
theorem pm_iald_of {t : Nat} (h : pm_iald t pc ls st w = some r) : ∃ i a st' xs, st = .int i :: .ref a :: st' ∧ w[a]? = some (.inl (t, .inl xs)) ∧ vp_in i xs.length ∧ r = (pc + 1, ls, .int (xs.getD i.toNatClampNeg 0) :: st', w) := by
  unfold pm_iald at h
  split at h
  · split at h
    · rename_i hw
      split at h
      · rename_i hc
        obtain ⟨rfl, hi⟩ := hc
        cases h
        exact ⟨_, _, _, _, rfl, hw, pm_in_ok hi, rfl⟩
      · cases h
    · cases h
  · cases h
theorem pm_iast_of {t : Nat} {f : Int32 → Int32} (h : pm_iast t f pc ls st w = some r) : ∃ x i a st' xs, st = .int x :: .int i :: .ref a :: st' ∧ w[a]? = some (.inl (t, .inl xs)) ∧ vp_in i xs.length ∧ r = (pc + 1, ls, st', w.set a (.inl (t, .inl (xs.set i.toNatClampNeg (f x))))) := by
  unfold pm_iast at h
  split at h
  · split at h
    · rename_i hw
      split at h
      · rename_i hc
        obtain ⟨rfl, hi⟩ := hc
        cases h
        exact ⟨_, _, _, _, _, rfl, hw, pm_in_ok hi, rfl⟩
      · cases h
    · cases h
  · cases h
theorem pm_upd {xs : List Int32} {k : Nat} (h : k < xs.length) (x : Int32) : upd (fun j => xs.getD j 0) k x = fun j => (xs.set k x).getD j 0 := by
  funext j
  unfold upd
  by_cases hj : k = j
  · subst hj
    simp [h]
  · rw [if_neg (fun q => hj q.symm)]
    simp [List.getElem?_set_ne hj]
theorem pm_upq {b : Nat} {xs : List (Option Nat)} {k : Nat} (h : k < xs.length) (v : Nat) : va_up (fun j => (xs.getD j none).map (fun q => b + q)) k (some (b + v)) = fun j => ((xs.set k (some v)).getD j none).map (fun q => b + q) := by
  funext j
  unfold va_up
  by_cases hj : k = j
  · subst hj
    simp [h]
  · rw [if_neg (fun q => hj q.symm)]
    simp [List.getElem?_set_ne hj]
theorem pm_len_a (b : Nat) (xs : pm_A) : (pm_a b xs).1 = pm_len xs := by
  rcases xs with _ | _ | _ <;> rfl
theorem pm_fit_ok {ty : FieldType} {v : Value} (b : Nat) (h : pm_fit ty v = true) : narrow ty (pm_v b v) = pm_v b v ∧ fits ty (pm_v b v) = true := by
  unfold pm_fit at h
  simp only [Bool.and_eq_true, decide_eq_true_eq] at h
  exact ⟨by rw [pm_v_nar, h.1], by rw [pm_v_fit]; exact h.2⟩
end PM
