/-! ===== what a program must say of the tables, and the step of one instruction ===== -/
def pm_sz : Instr → Nat
  | .bipush _ | .ldc _ | .iload _ | .lload _ | .aload _ | .istore _ | .lstore _ | .astore _ | .newarray _ => 2
  | .sipush _ | .ldc_w _ | .getstatic _ | .ldc2_w _ | .iinc _ _ | .goto _ | .ifCond _ _ | .if_icmp _ _ | .ifnull _ | .ifnonnull _ | .getfield _ | .putfield _ | .new _ | .anewarray _ | .invokespecial _ | .invokevirtual _ | .invokestatic _ => 3
  | .tableswitch _ _ _ _ => 0
  | _ => 1
def pm_okD (cd : Nat → ByteArray) (G : pm_G) : Prop := ∀ mi pc i, pm_dec G mi pc = some i → ∃ n, decode (cd mi) pc = .ok (i, n) ∧ (pm_sz i = 0 ∨ n = pm_sz i)
def pm_okC (Tb : List Cond) (cl : List vw_C) : Prop := ∀ (ci : Nat) (q : vw_C), cl[ci]? = some q → (∀ w ∈ u_ws q.1 q.2.1 q.2.2, w ∈ Tb) ∧ (∃ ty : Nat → FieldType, ∀ k, k < q.2.2 → parseFieldDescriptor (q.2.1 k).2.2.1 = some (ty k)) ∧ (∀ a, a < q.2.2 → ∀ b, b < q.2.2 → a ≠ b → (q.2.1 a).2.1 ≠ (q.2.1 b).2.1)
def pm_okF (Tb nws : List Cond) (own : String) (k : Nat) (T : u_T) (j : Nat) : Prop := Cond.fieldLink own k (T j).1 (T j).2.1 (T j).2.2.1 ∈ Tb ∨ ∃ host, Cond.fieldLinkNest own k (T j).1 (T j).2.1 (T j).2.2.1 host ∈ nws
def pm_okG (Tb nws : List Cond) (cl : List vw_C) (y : Nat → MethodName) (G : pm_G) : Prop := ∀ mi k ci j, pm_get G mi k = some (ci, j) → ∃ q : vw_C, cl[ci]? = some q ∧ j < q.2.2 ∧ pm_okF Tb nws (y mi).cls k q.2.1 j
def pm_okP (Tb nws : List Cond) (cl : List vw_C) (y : Nat → MethodName) (G : pm_G) : Prop := ∀ mi k ci j ty, pm_put G mi k = some (ci, j, ty) → ∃ q : vw_C, cl[ci]? = some q ∧ j < q.2.2 ∧ parseFieldDescriptor (q.2.1 j).2.2.1 = some ty ∧
  (((q.2.1 j).2.2.2 = false ∧ pm_okF Tb nws (y mi).cls k q.2.1 j) ∨ ((q.2.1 j).2.2.2 = true ∧ (y mi).name = "<init>" ∧ (q.2.1 j).1 = (y mi).cls ∧ Cond.fieldLink (y mi).cls k (q.2.1 j).1 (q.2.1 j).2.1 (q.2.1 j).2.2.1 ∈ Tb))
def pm_okK (Tb : List Cond) (y : Nat → MethodName) (G : pm_G) : Prop := (∀ mi k v, pm_ldc G mi k = some v → Cond.constant (y mi).cls k v ∈ Tb) ∧ ∀ mi k v, pm_ld2 G mi k = some v → Cond.constantLong (y mi).cls k v ∈ Tb
def pm_okT (Tb nws : List Cond) (sts : List (String × String × String × Value)) (y : Nat → MethodName) (G : pm_G) : Prop := ∀ mi k v, pm_sta G mi k = some v → ∃ C n d, (C, n, d, v) ∈ sts ∧ (Cond.fieldLink (y mi).cls k C n d ∈ Tb ∨ ∃ host, Cond.fieldLinkNest (y mi).cls k C n d host ∈ nws)
def pm_okR (srs : List (String × Nat × String × Nat)) (y : Nat → MethodName) (G : pm_G) : Prop := ∀ mi k j, pm_lds G mi k = some j → ∃ tx, ((y mi).cls, k, tx, j) ∈ srs
def pm_okU (Tb : List Cond) (y : Nat → MethodName) (G : pm_G) : Prop := (∀ mi k, pm_gts G mi k = some 0 → Cond.fieldLink (y mi).cls k "java/lang/String" "coder" "B" ∈ Tb) ∧ ∀ mi k, pm_gts G mi k = some 1 → Cond.fieldLink (y mi).cls k "java/lang/String" "value" "[B" ∈ Tb
def pm_okY (Tb : List Cond) (y : Nat → MethodName) (G : pm_G) : Prop := (∀ mi k, pm_nat G mi k = some 0 → Cond.methodLink (y mi).cls k arraycopyName ∈ Tb ∧ Cond.native arraycopyName ∈ Tb ∧ Cond.static arraycopyName ∈ Tb ∧ Cond.initialized "java/lang/System" ∈ Tb) ∧
  (∀ mi k, pm_nat G mi k = some 1 → Cond.methodLink (y mi).cls k Lib.Math.max.name ∈ Tb ∧ Cond.static Lib.Math.max.name ∈ Tb ∧ Cond.initialized "java/lang/Math" ∈ Tb ∧ Cond.code Lib.Math.max.name Lib.Math.max.code 2 (some .int) ∈ Tb) ∧
  (∀ mi k, pm_nat G mi k = some 2 → Cond.methodLink (y mi).cls k Lib.Math.min.name ∈ Tb ∧ Cond.static Lib.Math.min.name ∈ Tb ∧ Cond.initialized "java/lang/Math" ∈ Tb ∧ Cond.code Lib.Math.min.name Lib.Math.min.code 2 (some .int) ∈ Tb) ∧
  ∀ mi k, pm_nat G mi k = some 3 → Cond.methodLink (y mi).cls k Lib.Math.abs.name ∈ Tb ∧ Cond.static Lib.Math.abs.name ∈ Tb ∧ Cond.initialized "java/lang/Math" ∈ Tb ∧ Cond.code Lib.Math.abs.name Lib.Math.abs.code 1 (some .int) ∈ Tb
/-- the cells outside: arrays, texts, statics, constants -/
def pm_Out (b : pm_B) (X : pm_X) (sts : List (String × String × String × Value)) (srs : List (String × Nat × String × Nat)) (U : State) (H : Heap) : Prop :=
  (∀ j xs i, X j = some (0, xs, i) → b.2 j = some (pm_ad b j) ∧ va_T .int (pm_ad b j) xs.length (fun k => .int (xs.getD k 0)) (fun q => b.1 ≤ q) U H) ∧
  (∀ j xs i, X j = some (1, xs, i) → b.2 j = some (pm_ad b j) ∧ va_T .byte (pm_ad b j) xs.length (fun k => .int (xs.getD k 0)) (fun q => b.1 ≤ q) U H) ∧
  (∀ j xs i, X j = some (2, xs, i) → b.2 j = some (pm_ad b j) ∧ va_O "java/lang/String" (pm_ad b j) (fun q => b.1 ≤ q) U H ∧ va_OF "java/lang/String" "coder" "B" (.int 0) (pm_ad b j) (fun q => b.1 ≤ q) U H ∧ va_OF "java/lang/String" "value" "[B" (pm_v b (.retAddr i)) (pm_ad b j) (fun q => b.1 ≤ q) U H) ∧
  (∀ C n d v, (C, n, d, v) ∈ sts → va_Z C n d (pm_v b v) (fun q => b.1 ≤ q) U H) ∧
  ∀ own k tx j, (own, k, tx, j) ∈ srs → b.2 j = some (pm_ad b j) ∧ vk_R own k tx (pm_ad b j) U
theorem pm_Out.kept {b : pm_B} {X : pm_X} {sts : List (String × String × String × Value)} {srs : List (String × Nat × String × Nat)} {U : State} {H H1 : Heap} (h : pm_Out b X sts srs U H) (hq : ∀ a : Nat, a < H.size → ¬ b.1 ≤ a → H1[a]? = H[a]?) : pm_Out b X sts srs U H1 :=
  ⟨fun j xs i e => ⟨(h.1 j xs i e).1, (h.1 j xs i e).2.kept hq⟩, fun j xs i e => ⟨(h.2.1 j xs i e).1, (h.2.1 j xs i e).2.kept hq⟩, fun j xs i e => ⟨(h.2.2.1 j xs i e).1, (h.2.2.1 j xs i e).2.1.kept hq, (h.2.2.1 j xs i e).2.2.1.kept hq, (h.2.2.1 j xs i e).2.2.2.kept hq⟩, fun C n d v e => (h.2.2.2.1 C n d v e).kept hq, h.2.2.2.2⟩
theorem pm_Out.warm {b : pm_B} {X : pm_X} {sts : List (String × String × String × Value)} {srs : List (String × Nat × String × Nat)} {s U : State} {H : Heap} (hW : s.WarmedH U.vm) (h : pm_Out b X sts srs s H) : pm_Out b X sts srs U H :=
  ⟨fun j xs i e => ⟨(h.1 j xs i e).1, (h.1 j xs i e).2.moved hW.alike⟩, fun j xs i e => ⟨(h.2.1 j xs i e).1, (h.2.1 j xs i e).2.moved hW.alike⟩, fun j xs i e => ⟨(h.2.2.1 j xs i e).1, (h.2.2.1 j xs i e).2.1.moved hW.alike, (h.2.2.1 j xs i e).2.2.1.moved hW.alike, (h.2.2.1 j xs i e).2.2.2.moved hW.alike⟩, fun C n d v e => (h.2.2.2.1 C n d v e).moved hW.alike, fun own k tx j e => ⟨(h.2.2.2.2 own k tx j e).1, (h.2.2.2.2 own k tx j e).2.warm hW⟩⟩
theorem pm_Out.call {b : pm_B} {X : pm_X} {sts : List (String × String × String × Value)} {srs : List (String × Nat × String × Nat)} {U V : State} {H : Heap} (hv : U.vm = V.vm) (h : pm_Out b X sts srs U H) : pm_Out b X sts srs V H := by
  have ha : U.vm.Alike V.vm := by rw [hv]; exact Vm.Alike.refl V.vm
  exact ⟨fun j xs i e => ⟨(h.1 j xs i e).1, (h.1 j xs i e).2.moved ha⟩, fun j xs i e => ⟨(h.2.1 j xs i e).1, (h.2.1 j xs i e).2.moved ha⟩, fun j xs i e => ⟨(h.2.2.1 j xs i e).1, (h.2.2.1 j xs i e).2.1.moved ha, (h.2.2.1 j xs i e).2.2.1.moved ha, (h.2.2.1 j xs i e).2.2.2.moved ha⟩, fun C n d v e => (h.2.2.2.1 C n d v e).moved ha, fun own k tx j e => ⟨(h.2.2.2.2 own k tx j e).1, (h.2.2.2.2 own k tx j e).2.same hv.symm⟩⟩
/-- what stays the same in a method's run -/
def pm_K (D : va_G) (cl : List vw_C) (cA : Nat → ClassId) (tyl : List FieldType) (nws : List Cond) (aos : List String) (U : State) : Prop := va_K D cl (pm_tys cA tyl) U ∧ (∀ w ∈ nws, va_Nw w U) ∧ ∀ C ∈ aos, va_AO C U
def pm_Fx (D : va_G) (cl : List vw_C) (cA : Nat → ClassId) (tyl : List FieldType) (Tb nws : List Cond) (aos : List String) (y : Nat → MethodName) (cd : Nat → ByteArray) (G : pm_G) (X : pm_X) (sts : List (String × String × String × Value)) (srs : List (String × Nat × String × Nat)) (b : pm_B) (mi : Nat) (p : Program) (s : State) (m : MethodId) (args : Array Value) (meth : Method) (c : Code) : Prop :=
  p.tables.exec = Jvm.exec ∧ c.code = cd mi ∧ meth.sig.returnType = pm_ret G mi ∧ c.maxLocals = pm_max G mi ∧ s.vm.findClass (y mi).cls = some m.cls ∧ (∀ w ∈ Tb, w.before args s = true) ∧ meth.locks = false ∧ ((y mi).name = "<init>" → meth.name = "<init>") ∧ pm_K D cl cA tyl nws aos s ∧ b.1 ≤ s.heap.size ∧ pm_Out b X sts srs s s.heap
section PM
variable {G : pm_G} {tyl : List FieldType} {cl : List vw_C} {D : va_G} {cA : Nat → ClassId} {b : pm_B} {Tb nws : List Cond} {aos : List String} {y : Nat → MethodName} {cd : Nat → ByteArray}
variable {p : Program} {l : Launch} {e : Env} {R : Room} {s : State} {m : MethodId} {args : Array Value} {below : List Frame} {meth : Method} {c : Code} {H : Heap} {locs : List Loc} {cells slots : Nat} {Q : State → Prop}
theorem pm_jmp_of {pc : Nat} {off : Int} {ls st : List Value} {w : pm_W} {r : pm_C} (h : pm_jmp pc off ls st w = some r) : ∃ t : Nat, (pc : Int) + off = (t : Int) ∧ r = (t, ls, st, w) := by
  unfold pm_jmp at h
  split at h
  · rename_i h0
    cases h
    exact ⟨_, (Int.toNat_of_nonneg h0).symm, rfl⟩
  · cases h
theorem pm_br_of {P : Prop} [Decidable P] {pc : Nat} {off : Int} {ls st : List Value} {w : pm_W} {r : pm_C} (h : pm_br P pc off ls st w = some r) : ∃ t : Nat, (pc : Int) + off = (t : Int) ∧ ((P ∧ r = (t, ls, st, w)) ∨ (¬ P ∧ r = (pc + 3, ls, st, w))) := by
  unfold pm_br at h
  split at h
  · rename_i h1
    refine ⟨_, (Int.toNat_of_nonneg h1).symm, ?_⟩
    split at h
    · rename_i h0
      cases h
      exact Or.inl ⟨h0, rfl⟩
    · rename_i h0
      cases h
      exact Or.inr ⟨h0, rfl⟩
  · cases h
theorem pm_sum_v (st : List Value) : ((st.map (pm_v b)).map fun v => v.category).sum = pm_sum st := by
  unfold pm_sum
  rw [List.map_map]
  congr 1
  apply List.map_congr_left
  intro v _
  exact pm_v_cat b v
theorem pm_all_at {xs : List Int32} {sp n i : Nat} {P : Int32 → Bool} (h : ((xs.drop sp).take n).all P = true) (h4 : sp + n ≤ xs.length) (hi : i < n) : P (xs.getD (sp + i) 0) = true := by
  rw [List.all_eq_true] at h
  have hlt : sp + i < xs.length := by omega
  refine h _ ?_
  rw [List.getD_eq_getElem?_getD, List.getElem?_eq_getElem hlt]
  refine List.mem_of_getElem? (i := i) ?_
  rw [List.getElem?_take, if_pos hi, List.getElem?_drop, List.getElem?_eq_getElem hlt]
  rfl
/-- the goal behind an instruction -/
def pm_Go (D : va_G) (cl : List vw_C) (cA : Nat → ClassId) (b : pm_B) (nL : Nat) (p : Program) (l : Launch) (e : Env) (R : Room) (s : State) (m : MethodId) (args : Array Value) (below : List Frame) (meth : Method) (c : Code) (cells slots : Nat) (Q : State → Prop) (r : pm_C) : Prop :=
  ∀ (lsR : Array Slot) (H : Heap) (locs : List Loc), lv_has lsR nL (pm_lv b r.2.1) → r.2.1.length = nL → va_P D cl (pm_ws cA b r.2.2.2) H → va_S (fun q => b.1 ≤ q) s.heap H locs → W p l e R s m args below meth c H locs cells slots Q (F0 m r.1 lsR (r.2.2.1.map (pm_v b)))
variable {mi : Nat} {lsR : Array Slot} {pc : Nat} {ls st : List Value} {w : pm_W} {r : pm_C} {nL : Nat}
theorem pm_iload_ok {i : Nat} {pc' : Nat} (h : pm_iload pc' i ls st w = some r) (hl : lv_has lsR nL (pm_lv b ls)) : ∃ x, lsR[i]? = some (.val (.int x)) ∧ r = (pc', ls, .int x :: st, w) := by
  unfold pm_iload at h
  split at h
  · rename_i x hx
    cases h
    exact ⟨x, pm_lv_at hl hx rfl, rfl⟩
  · cases h
theorem pm_lload_ok {i : Nat} {pc' : Nat} (h : pm_lload pc' i ls st w = some r) (hl : lv_has lsR nL (pm_lv b ls)) : ∃ x, lsR[i]? = some (.val (.long x)) ∧ r = (pc', ls, .long x :: st, w) := by
  unfold pm_lload at h
  split at h
  · rename_i x hx
    cases h
    exact ⟨x, pm_lv_at hl hx rfl, rfl⟩
  · cases h
theorem pm_aload_ok {i : Nat} {pc' : Nat} (h : pm_aload pc' i ls st w = some r) (hl : lv_has lsR nL (pm_lv b ls)) : (∃ x a, lsR[i]? = some (.val (.ref a)) ∧ pm_v b x = .ref a ∧ r = (pc', ls, x :: st, w)) ∨ (∃ x, lsR[i]? = some (.val .null) ∧ pm_v b x = .null ∧ r = (pc', ls, x :: st, w)) := by
  unfold pm_aload at h
  split at h
  · rename_i x hx
    cases h
    exact Or.inl ⟨.ref x, b.1 + x, pm_lv_at hl hx rfl, rfl, rfl⟩
  · rename_i hx
    cases h
    exact Or.inr ⟨.null, pm_lv_at hl hx rfl, rfl, rfl⟩
  · rename_i x hx
    cases h
    have e := pm_lv_at hl hx rfl
    cases hb : b.2 x with
    | none =>
      have hv : pm_v b (.retAddr x) = .null := by
        show va_rf (b.2 x) = _
        rw [hb]
        rfl
      rw [hv] at e
      exact Or.inr ⟨.retAddr x, e, hv, rfl⟩
    | some a =>
      rw [pm_v_some hb] at e
      exact Or.inl ⟨.retAddr x, a, e, pm_v_some hb, rfl⟩
  · cases h
theorem pm_istore_of {i : Nat} {pc' : Nat} (h : pm_istore pc' i ls st w = some r) : ∃ x st', st = .int x :: st' ∧ i < ls.length ∧ r = (pc', pm_st1 ls i (.int x), st', w) := by
  unfold pm_istore at h
  split at h
  · split at h
    · rename_i hk
      cases h
      exact ⟨_, _, rfl, hk, rfl⟩
    · cases h
  · cases h
theorem pm_lstore_of {i : Nat} {pc' : Nat} (h : pm_lstore pc' i ls st w = some r) : ∃ x st', st = .long x :: st' ∧ i + 1 < ls.length ∧ r = (pc', pm_st2 ls i (.long x), st', w) := by
  unfold pm_lstore at h
  split at h
  · split at h
    · rename_i hk
      cases h
      exact ⟨_, _, rfl, hk, rfl⟩
    · cases h
  · cases h
theorem pm_astore_of {i : Nat} {pc' : Nat} (h : pm_astore pc' i ls st w = some r) : i < ls.length ∧ ((∃ x a st', st = x :: st' ∧ pm_v b x = .ref a ∧ r = (pc', pm_st1 ls i x, st', w)) ∨ ∃ x st', st = x :: st' ∧ pm_v b x = .null ∧ r = (pc', pm_st1 ls i x, st', w)) := by
  unfold pm_astore at h
  split at h
  · split at h
    · rename_i hk
      cases h
      exact ⟨hk, Or.inl ⟨_, _, _, rfl, rfl, rfl⟩⟩
    · cases h
  · split at h
    · rename_i hk
      cases h
      exact ⟨hk, Or.inr ⟨_, _, rfl, rfl, rfl⟩⟩
    · cases h
  · split at h
    · rename_i hk
      cases h
      rename_i x _
      cases hb : b.2 x with
      | none => exact ⟨hk, Or.inr ⟨_, _, rfl, (by show va_rf (b.2 x) = _; rw [hb]; rfl), rfl⟩⟩
      | some a => exact ⟨hk, Or.inl ⟨_, a, _, rfl, pm_v_some hb, rfl⟩⟩
    · cases h
  · cases h
theorem pm_ii_of {f : Int32 → Int32 → Option Int32} (h : pm_ii pc f ls st w = some r) : ∃ x y z st', st = .int y :: .int x :: st' ∧ f x y = some z ∧ r = (pc + 1, ls, .int z :: st', w) := by
  unfold pm_ii at h
  split at h
  · split at h
    · rename_i hz
      cases h
      exact ⟨_, _, _, _, rfl, hz, rfl⟩
    · cases h
  · cases h
theorem pm_ll_of {f : Int64 → Int64 → Option Int64} (h : pm_ll pc f ls st w = some r) : ∃ x y z st', st = .long y :: .long x :: st' ∧ f x y = some z ∧ r = (pc + 1, ls, .long z :: st', w) := by
  unfold pm_ll at h
  split at h
  · split at h
    · rename_i hz
      cases h
      exact ⟨_, _, _, _, rfl, hz, rfl⟩
    · cases h
  · cases h
theorem pm_iald_of {X : pm_X} {t : Nat} (h : pm_iald X t pc ls st w = some r) : ∃ i st' xs, vp_in i xs.length ∧ r = (pc + 1, ls, .int (xs.getD i.toNatClampNeg 0) :: st', w) ∧ ((∃ a, st = .int i :: .ref a :: st' ∧ w[a]? = some (.inl (t, .inl xs))) ∨ ∃ j k, st = .int i :: .retAddr j :: st' ∧ X j = some (t, xs, k)) := by
  unfold pm_iald at h
  split at h
  · split at h
    · rename_i hw
      split at h
      · rename_i hc
        obtain ⟨rfl, hi⟩ := hc
        cases h
        exact ⟨_, _, _, pm_in_ok hi, rfl, Or.inr ⟨_, _, rfl, hw⟩⟩
      · cases h
    · cases h
  · split at h
    · rename_i hw
      split at h
      · rename_i hc
        obtain ⟨rfl, hi⟩ := hc
        cases h
        exact ⟨_, _, _, pm_in_ok hi, rfl, Or.inl ⟨_, rfl, hw⟩⟩
      · cases h
    · cases h
  · cases h
theorem pm_iast_of {t : Nat} {f : Int32 → Int32} (h : pm_iast t f pc ls st w = some r) : ∃ x i a st' xs, st = .int x :: .int i :: .ref a :: st' ∧ w[a]? = some (.inl (t, .inl xs)) ∧ vp_in i xs.length ∧ r = (pc + 1, ls, st', w.set a (.inl (t, .inl (xs.set i.toNatClampNeg (f x))))) := by
  unfold pm_iast at h
  split at h
  · split at h
    · rename_i hw
      split at h
      · rename_i hc
        obtain ⟨rfl, hi⟩ := hc
        cases h
        exact ⟨_, _, _, _, _, rfl, hw, pm_in_ok hi, rfl⟩
      · cases h
    · cases h
  · cases h
theorem pm_upd {xs : List Int32} {k : Nat} (h : k < xs.length) (x : Int32) : upd (fun j => xs.getD j 0) k x = fun j => (xs.set k x).getD j 0 := by
  funext j
  unfold upd
  by_cases hj : k = j
  · subst hj
    simp [h]
  · rw [if_neg (fun q => hj q.symm)]
    simp [List.getElem?_set_ne hj]
theorem pm_upq {b : pm_B} {xs : List (Option Nat)} {k : Nat} (h : k < xs.length) (v : Nat) : va_up (fun j => (xs.getD j none).map (fun q => b.1 + q)) k (some (b.1 + v)) = fun j => ((xs.set k (some v)).getD j none).map (fun q => b.1 + q) := by
  funext j
  unfold va_up
  by_cases hj : k = j
  · subst hj
    simp [h]
  · rw [if_neg (fun q => hj q.symm)]
    simp [List.getElem?_set_ne hj]
theorem pm_len_a (b : pm_B) (xs : pm_A) : (pm_a b xs).1 = pm_len xs := by
  rcases xs with _ | _ | _ <;> rfl
theorem pm_fit_ok {ty : FieldType} {v : Value} (b : pm_B) (h : pm_fit ty v = true) : narrow ty (pm_v b v) = pm_v b v ∧ fits ty (pm_v b v) = true := by
  unfold pm_fit at h
  simp only [Bool.and_eq_true, decide_eq_true_eq] at h
  exact ⟨by rw [pm_v_nar, h.1], pm_v_fit b ty v h.2⟩
theorem pm_copy_of (h : pm_copy pc ls st w = some r) : ∃ (n dp sp : Int32) (a1 a0 : Nat) (st' : List Value) (t : Nat) (xs ys : List Int32), st = .int n :: .int dp :: .ref a1 :: .int sp :: .ref a0 :: st' ∧ w[a0]? = some (.inl (t, .inl xs)) ∧ w[a1]? = some (.inl (t, .inl ys)) ∧ (t < 2 ∧ ¬ sp < 0 ∧ ¬ dp < 0 ∧ ¬ n < 0 ∧ sp.toNatClampNeg + n.toNatClampNeg ≤ xs.length ∧ dp.toNatClampNeg + n.toNatClampNeg ≤ ys.length ∧ (t = 0 ∨ ((xs.drop sp.toNatClampNeg).take n.toNatClampNeg).all (fun x => fits .byte (.int x)) = true) ∧ pm_sum st' ≤ 8) ∧ r = (pc + 3, ls, st', w.set a1 (.inl (t, .inl (pm_cpy xs ys sp.toNatClampNeg dp.toNatClampNeg n.toNatClampNeg)))) := by
  unfold pm_copy at h
  split at h
  · split at h
    · rename_i h1 h2
      split at h
      · rename_i hc
        obtain ⟨rfl, hc⟩ := hc
        cases h
        exact ⟨_, _, _, _, _, _, _, _, _, rfl, h1, h2, hc, rfl⟩
      · cases h
    · cases h
  · cases h
theorem pm_cpy_len {xs ys : List Int32} {sp dp n : Nat} (h1 : sp + n ≤ xs.length) (h2 : dp + n ≤ ys.length) : (pm_cpy xs ys sp dp n).length = ys.length := by
  simp only [pm_cpy, List.length_append, List.length_take, List.length_drop]
  omega
theorem pm_cpy_f {xs ys : List Int32} {sp dp n : Nat} (h1 : sp + n ≤ xs.length) (h2 : dp + n ≤ ys.length) : va_cpy (fun j => xs.getD j 0) (fun j => ys.getD j 0) sp dp n = fun j => (pm_cpy xs ys sp dp n).getD j 0 := by
  funext k
  unfold va_cpy pm_cpy
  simp only [List.getD_eq_getElem?_getD]
  by_cases ha : k < dp
  · rw [if_neg (by omega), List.append_assoc, List.getElem?_append_left (by simp; omega), List.getElem?_take, if_pos ha]
  · by_cases hb : k < dp + n
    · rw [if_pos (by omega), List.append_assoc, List.getElem?_append_right (by simp; omega), List.getElem?_append_left (by simp; omega), List.getElem?_take, if_pos (by simp; omega), List.getElem?_drop]
      congr 2
      simp
      congr 1
      omega
    · rw [if_neg (by omega), List.getElem?_append_right (by simp; omega), List.getElem?_drop]
      congr 2
      simp
      omega
theorem pm_oc_of {x z : Option pm_C} (h : pm_oc x z = some r) : x = some r ∨ z = some r := by
  cases x with
  | some q => exact Or.inl h
  | none => exact Or.inr h
end PM
