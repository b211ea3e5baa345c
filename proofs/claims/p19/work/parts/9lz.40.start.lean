/-! THE CLAIM OUT OF ONE WALK OF THE LAW'S BODY. Your part is whole_start (and what it stands on); all else here is the same for every law, but numbers. -/
def R_law : String := "RingVillageLaw"
def lw_P (b : Addr) (xs : List Int32) (args : Array Value) (s : State) : Prop := args = #[.ref b] ∧ s.IntsAt b xs ∧ xs.length ≤ 3584 ∧ (Jvm.Cond.and given_1 narrow_1).before args s = true
def lw_Q (_ : Array Value) (s : State) (o : Outcome) (t : State) : Prop := o = .returned (some (.int 1)) ∧ Framed s o t [] 600000 7302250
def lw_Z (below : List Frame) (a : Array Value) (s : State) : State → Prop := fun t => ∃ o, t.status = .running ∧ Ended t below o ∧ lw_Q a s o t
/-- the law's own end, with 1 on the stack, nothing written that was there before, its room as the claim has it -/
theorem lw_ret {p : Program} {l : Launch} {e : Env} {s : State} {m : MethodId} {below : List Frame} {meth : Method} {c : Code} {b : Nat} (hx : p.tables.exec = Jvm.exec) (hb : c.code = code) (hr : meth.sig.returnType = ret) (hlocks : meth.locks = false) {pc : Nat} {H : Heap} {ls : Array Slot} (hdg : decode code pc = .ok (.ireturn, 1)) : W p l e room_1 s m #[Value.ref b] below meth c H [] 600000 7302250 (lw_Z below #[Value.ref b] s) (F0 m pc ls [.int 1]) := by
  intro T hT X
  obtain ⟨fs, hret, hrun, hended, hW, hframe⟩ := X.leave (v := some (.int 1)) (hlocks := hlocks) (fun h => by rw [hr] at h; cases h)
  have hmeth' : T.vm.method? m = some meth := X.method'
  refine ⟨T.setFrames fs, ?_, .returned (some (.int 1)), hrun, hended, rfl, ⟨_, rfl⟩, hW, hframe⟩
  jvm_step X.here [X.here.top, hx, hb, hdg, hmeth', hr, ret, narrow_b1]
  (try refine ⟨rfl, ?_⟩); (try refine ⟨rfl, ?_⟩)
  first | (intro acts; rw [hret _ acts rfl rfl rfl]) | rw [hret _ _ rfl rfl rfl]
  exact Steps.refl _
/-- what holds at the law's entry: the machine, the code, the tables' words (any of lw_tbl by 'hts w (by decide +kernel)'), the script of L ints xs at the cell b, what the Statement gives of the start (any of its parts by flat_of_before) -/
def lw_At (p : Program) (s : State) (m : MethodId) (meth : Method) (c : Code) (b L : Nat) (xs : Nat → Int32) : Prop :=
  p.tables.exec = Jvm.exec ∧ c.code = code ∧ meth.sig.returnType = ret ∧ c.maxLocals = 4 ∧ s.vm.findClass R_law = some m.cls ∧ (∀ w ∈ lw_tbl, w.before #[Value.ref b] s = true) ∧ va_X b L xs s s.heap ∧ b < s.heap.size ∧ meth.locks = false ∧ (Jvm.Cond.and given_1 narrow_1).before #[Value.ref b] s = true

def fc_arr (tm : Term) (ty : FieldType) (xs : List Int32) : List Cond := .arrayOf tm ty :: .eq (.length tm) (.int (Int32.ofNat xs.length)) :: (List.range xs.length).map (fun j => .eq (.elem tm (.int (Int32.ofNat j))) (.int (xs.getD j 0)))
theorem fc_arr_T {args : Array Value} {s : State} {tm : Term} {ty : FieldType} {xs : List Int32} {A : Nat → Prop} (hN : xs.length < 2 ^ 31) (h : ∀ c ∈ fc_arr tm ty xs, c.before args s = true) (hA : ∀ a : Nat, a < s.heap.size → ¬ A a) : ∃ t : Nat, tm.eval args s none [] s = some (.ref t) ∧ va_T ty t xs.length (fun k => .int (xs.getD k 0)) A s s.heap :=
  va_Tof hN (h _ List.mem_cons_self) (va_eqt (h _ (List.mem_cons_of_mem _ List.mem_cons_self))) (fun j hj => va_eqt (h _ (List.mem_cons_of_mem _ (List.mem_cons_of_mem _ (List.mem_map.mpr ⟨j, List.mem_range.mpr hj, rfl⟩))))) hA
def fc_str (tm : Term) (xs : List Int32) : List Cond := .exactly tm "java/lang/String" :: .eq (.field tm "java/lang/String" "coder" "B") (.int 0) :: fc_arr (.field tm "java/lang/String" "value" "[B") .byte xs
theorem fc_str_S {args : Array Value} {s : State} {tm : Term} {xs : List Int32} {A : Nat → Prop} (hN : xs.length < 2 ^ 31) (h : ∀ c ∈ fc_str tm xs, c.before args s = true) (hA : ∀ a : Nat, a < s.heap.size → ¬ A a) : ∃ k v : Nat, tm.eval args s none [] s = some (.ref k) ∧ va_O "java/lang/String" k A s s.heap ∧ va_OF "java/lang/String" "coder" "B" (.int 0) k A s s.heap ∧ va_OF "java/lang/String" "value" "[B" (.ref v) k A s s.heap ∧ va_T .byte v xs.length (fun j => .int (xs.getD j 0)) A s s.heap := by
  have h2 : ∀ c ∈ fc_arr (.field tm "java/lang/String" "value" "[B") .byte xs, c.before args s = true := fun c hc => h c (List.mem_cons_of_mem _ (List.mem_cons_of_mem _ hc))
  obtain ⟨adK, adV, hS, hE⟩ := vk_Sof (N := 1) (tm := fun _ => tm) (len := [xs.length]) (byt := [xs]) (A := A) (args := args) (s := s) (fun i hi => by
      have : i = 0 := by omega
      subst this
      exact hN) (fun i _ => h _ List.mem_cons_self) (fun i _ => h _ (List.mem_cons_of_mem _ List.mem_cons_self)) (fun i _ => h2 _ List.mem_cons_self) (fun i hi => by
      have : i = 0 := by omega
      subst this
      exact h2 _ (List.mem_cons_of_mem _ List.mem_cons_self)) (fun i hi j hj => by
      have : i = 0 := by omega
      subst this
      exact h2 _ (List.mem_cons_of_mem _ (List.mem_cons_of_mem _ (List.mem_map.mpr ⟨j, List.mem_range.mpr hj, rfl⟩)))) (fun i j hi hj hne => by omega) hA
  have h0 := hS.1 0 (by omega)
  exact ⟨adK 0, adV 0, hE 0 (by omega), h0.1, h0.2.1, h0.2.2.1, h0.2.2.2⟩
def fl_all : List Cond := flatC (Jvm.Cond.and given_1 narrow_1)
def fl_a1 : List Cond := fc_arr (.static "RingVillage$Reader" "DUE" "[I") .int [3, 3, 4, 1, 1, 0, 1, 3, 1, 2, 2, 1, 4]
def fl_a2 : List Cond := fc_arr (.static "RingVillage$Reader" "LOW" "[I") .int [0, 0, 1, 0, 0, 0, 1, 0, 1, 0, 0, 0, 0, 0, 0, 0, 0, 0, 0, 0, 0, 0, 0, 0, 2, 0, 0, 0, 0, 0, 0, 0, 0, 0, 0, 0, 0, 0, 0, 0, 0, 0, 0, 0, 0, 0, 0, 0, 0, 0, 1, 0]
def fl_a3 : List Cond := fc_arr (.static "RingVillage$Reader" "HIGH" "[I") .int [8, 8, 99, 0, 8, 8, 99, 0, 99, 99, 8, 8, 29, 0, 0, 0, 8, 0, 0, 0, 0, 0, 0, 0, 9, 0, 0, 0, 8, 8, 99, 0, 99, 0, 0, 0, 8, 99, 0, 0, 8, 100, 0, 0, 9, 0, 0, 0, 8, 8, 99, 99]
def fl_s0 : List Cond := fc_str (.string "RingVillage$Reader" 155) [111, 119, 101]
def fl_s1 : List Cond := fc_str (.string "RingVillage$Reader" 157) [112, 97, 121]
def fl_s2 : List Cond := fc_str (.string "RingVillage$Reader" 159) [114, 105, 110, 103]
def fl_s3 : List Cond := fc_str (.string "RingVillage$Reader" 161) [115, 116, 114, 105, 107, 101]
def fl_s4 : List Cond := fc_str (.string "RingVillage$Reader" 163) [102, 97, 105, 108]
def fl_s5 : List Cond := fc_str (.string "RingVillage$Reader" 165) [109, 111, 110, 116, 104]
def fl_s6 : List Cond := fc_str (.string "RingVillage$Reader" 167) [112, 101, 111, 112, 108, 101]
def fl_s7 : List Cond := fc_str (.string "RingVillage$Reader" 168) [119, 111, 114, 100]
def fl_s8 : List Cond := fc_str (.string "RingVillage$Reader" 170) [97, 108, 108]
def fl_s9 : List Cond := fc_str (.string "RingVillage$Reader" 172) [102, 101, 101]
def fl_s10 : List Cond := fc_str (.string "RingVillage$Reader" 174) [114, 105, 115, 107]
def fl_s11 : List Cond := fc_str (.string "RingVillage$Reader" 176) [115, 108, 97, 99, 107]
def fl_s12 : List Cond := fc_str (.string "RingVillage$Reader" 177) [119, 97, 110, 116]
def fl_i : List Cond := [.eq (.static "java/lang/String" "COMPACT_STRINGS" "Z") (.int 1), .eq (.static "java/lang/StringUTF16" "$assertionsDisabled" "Z") (.int 1), .eq (.static "java/lang/StringUTF16" "HI_BYTE_SHIFT" "I") (.int 0), .eq (.static "java/lang/StringUTF16" "LO_BYTE_SHIFT" "I") (.int 8)]
def fl_r : List Cond := [.stringRef "RingVillage$Reader" 155 "owe", .stringRef "RingVillage$Reader" 157 "pay", .stringRef "RingVillage$Reader" 159 "ring", .stringRef "RingVillage$Reader" 161 "strike", .stringRef "RingVillage$Reader" 163 "fail", .stringRef "RingVillage$Reader" 165 "month", .stringRef "RingVillage$Reader" 167 "people", .stringRef "RingVillage$Reader" 168 "word", .stringRef "RingVillage$Reader" 170 "all", .stringRef "RingVillage$Reader" 172 "fee", .stringRef "RingVillage$Reader" 174 "risk", .stringRef "RingVillage$Reader" 176 "slack", .stringRef "RingVillage$Reader" 177 "want"]
def fl_l : List Cond := [.laysStatic "RingVillage$Reader" "DUE" "[I", .laysStatic "java/lang/String" "COMPACT_STRINGS" "Z", .laysStatic "jdk/internal/util/Preconditions" "SIOOBE_FORMATTER" "Ljava/util/function/BiFunction;", .laysStatic "java/lang/StringUTF16" "$assertionsDisabled" "Z", .laysStatic "java/lang/StringUTF16" "HI_BYTE_SHIFT" "I", .laysStatic "java/lang/StringUTF16" "LO_BYTE_SHIFT" "I", .laysStatic "RingVillage$Reader" "LOW" "[I", .laysStatic "RingVillage$Reader" "HIGH" "[I"]
def fl_o : List Cond := pg_aos.map fun C => .arrayOver (.object C)
set_option maxRecDepth 100000
theorem fl_a1_in : pg_sub fl_a1 fl_all = true := by decide +kernel
theorem fl_a2_in : pg_sub fl_a2 fl_all = true := by decide +kernel
theorem fl_a3_in : pg_sub fl_a3 fl_all = true := by decide +kernel
theorem fl_s0_in : pg_sub fl_s0 fl_all = true := by decide +kernel
theorem fl_s1_in : pg_sub fl_s1 fl_all = true := by decide +kernel
theorem fl_s2_in : pg_sub fl_s2 fl_all = true := by decide +kernel
theorem fl_s3_in : pg_sub fl_s3 fl_all = true := by decide +kernel
theorem fl_s4_in : pg_sub fl_s4 fl_all = true := by decide +kernel
theorem fl_s5_in : pg_sub fl_s5 fl_all = true := by decide +kernel
theorem fl_s6_in : pg_sub fl_s6 fl_all = true := by decide +kernel
theorem fl_s7_in : pg_sub fl_s7 fl_all = true := by decide +kernel
theorem fl_s8_in : pg_sub fl_s8 fl_all = true := by decide +kernel
theorem fl_s9_in : pg_sub fl_s9 fl_all = true := by decide +kernel
theorem fl_s10_in : pg_sub fl_s10 fl_all = true := by decide +kernel
theorem fl_s11_in : pg_sub fl_s11 fl_all = true := by decide +kernel
theorem fl_s12_in : pg_sub fl_s12 fl_all = true := by decide +kernel
theorem fl_i_in : pg_sub fl_i fl_all = true := by decide +kernel
theorem fl_r_in : pg_sub fl_r lw_tbl = true := by decide +kernel
theorem fl_l_in : (fl_l.all fun w => decide (w ∈ lw_tbl)) = true := by decide +kernel
theorem fl_o_in : pg_sub fl_o lw_tbl = true := by decide +kernel
theorem fl_ci : ((List.range' 0 13).all fun ci => decide (ci ∈ pg_Ci)) = true := by decide +kernel
theorem fl_ta : (pg_tyl.all fun ty => match ty with | .object C => decide (C ∈ pg_aos) | t => decide (t ∈ pg_Ar)) = true := by decide +kernel
theorem fl_si : (pg_sts.all fun r => decide (r.1 ∈ pg_In) && decide (Cond.laysStatic r.1 r.2.1 r.2.2.1 ∈ fl_l)) = true := by decide +kernel
/-- what the pure machine must do with every script -/
def pg_Run (xs : List Int32) : Prop := ∃ (f d : Nat) (w' : pm_W) (mc ms : Nat), pm pg (pg_X xs) pg_tyl pg_cl f d 318 0 (pm_ent (pm_max pg 318) [.retAddr 0]) [] [] = some (some (.int 1), w', mc, ms) ∧ mc ≤ 600000 ∧ ms ≤ 7302250 ∧ d ≤ 1000
theorem pg_K0 {s : State} {args : Array Value} (hts : ∀ w ∈ lw_tbl, w.before args s = true) : ∃ (D : va_G) (cA : Nat → ClassId), pm_K D pg_cl cA pg_tyl pg_nws pg_aos s := by
  have hTb : ∀ w ∈ pg_Tb, w.before args s = true := fun w h => hts w (pg_in_tbl h)
  have h1 : ∀ ci : Nat, ∃ q : ClassId × (Nat → Nat), ci < 13 → u_Kn s (pg_R ci) (pg_T ci) (pg_fs ci).length q.1 q.2 := by
    intro ci
    by_cases hc : ci < 13
    · have hi : ci ∈ pg_Ci := of_decide_eq_true (pg_range (P := fun ci => decide (ci ∈ pg_Ci)) fl_ci (Nat.zero_le _) (by omega))
      obtain ⟨c, iS, h⟩ := u_known (C := pg_R ci) (T := pg_T ci) (N := (pg_fs ci).length) hTb (pg_okC ci _ (pg_cl_at ci hc)).1 (hTb _ (pg_t_wi (List.mem_map.mpr ⟨ci, hi, rfl⟩)))
      exact ⟨(c, iS), fun _ => h⟩
    · exact ⟨(0, fun _ => 0), fun h => absurd h hc⟩
  obtain ⟨D0, hD0⟩ := Classical.skolem.mp h1
  have hao : ∀ C ∈ pg_aos, va_AO C s := fun C hC => va_AO.of (hts _ (pg_sub_mem _ _ fl_o_in _ (List.mem_map.mpr ⟨C, hC, rfl⟩)))
  have h2 : ∀ t : Nat, ∃ c : ClassId, ∀ ty : FieldType, pg_tyl[t]? = some ty → ArrOfT s c ty ∧ va_RA s c ty := by
    intro t
    cases ht : pg_tyl[t]? with
    | none => exact ⟨0, fun ty h => by cases h⟩
    | some ty =>
      have hm := List.all_eq_true.mp fl_ta ty (List.mem_of_getElem? ht)
      have hpr : ∀ ty' : FieldType, ty' = ty → (∀ C, ty' ≠ .object C) → ty' ∈ pg_Ar → ∃ c : ClassId, ∀ ty0 : FieldType, some ty = some ty0 → ArrOfT s c ty0 ∧ va_RA s c ty0 := by
        intro ty' e hno har
        subst e
        obtain ⟨c0, kA, comp, e1, e2, e3⟩ := Cond.arrayClass_spec (hTb _ (pg_t_wA (List.mem_map.mpr ⟨ty', har, rfl⟩)))
        refine ⟨c0, fun ty0 h0 => ?_⟩
        cases h0
        refine ⟨fun n z => ⟨fun k h => (by cases h), kA, e2, comp, e3⟩, ?_⟩
        cases ty' with
        | object C => exact absurd rfl (hno C)
        | _ => exact e1
      cases ty with
      | object C =>
        have hC : C ∈ pg_aos := of_decide_eq_true hm
        obtain ⟨comp, c0, k0, e1, e2, e3, e4, e5⟩ := Cond.arrayOver_spec (hao C hC)
        refine ⟨c0, fun ty0 h0 => ?_⟩
        cases h0
        exact ⟨fun n z => ⟨fun k h => (by cases h), k0, e3, comp, e4⟩, ⟨k0, comp, e3, e4, e1, e5⟩⟩
      | _ => exact hpr _ rfl (fun C h => by cases h) (of_decide_eq_true hm)
  obtain ⟨cA, hcA⟩ := Classical.skolem.mp h2
  refine ⟨(fun ci => (D0 ci).1, fun ci => (D0 ci).2), cA, ⟨fun ci q hq => ?_, fun k q hk => ?_⟩, fun w hw => ?_, hao⟩
  · have hc := pg_cl_lt hq
    rw [pg_cl_at ci hc] at hq
    cases hq
    exact hD0 ci hc
  · simp only [pm_tys, List.getElem?_mapIdx, Option.map_eq_some_iff] at hk
    obtain ⟨ty, h3, rfl⟩ := hk
    exact hcA k ty h3
  · refine va_Nw.of ?_ (hts w (pg_in_nws hw))
    rcases pg_nest w hw with ⟨a, i, b, n, d, g, rfl⟩ | ⟨a, i, x, g, rfl⟩ <;> rfl
theorem pg_Out0 {s : State} {args : Array Value} {sc L : Nat} {xl : List Int32} (hL : xl.length < 2 ^ 31) (hts : ∀ w ∈ lw_tbl, w.before args s = true) (hgv : (Jvm.Cond.and given_1 narrow_1).before args s = true) (hsc : va_T .int sc xl.length (fun k => .int (xl.getD k 0)) (fun q => s.heap.size ≤ q) s s.heap) : ∃ ad : Nat → Option Nat, ad 0 = some sc ∧ pm_Out (s.heap.size, ad) (pg_X xl) pg_sts pg_srs s s.heap := by
  have hfl := flat_of_before _ hgv
  have hA : ∀ a : Nat, a < s.heap.size → ¬ s.heap.size ≤ a := fun a h => Nat.not_le.mpr h
  have hTb : ∀ w ∈ pg_Tb, w.before args s = true := fun w h => hts w (pg_in_tbl h)
  obtain ⟨t1, et1, ht1⟩ := fc_arr_T (A := fun q => s.heap.size ≤ q) (by decide) (fun c hc => hfl c (pg_sub_mem _ _ fl_a1_in c hc)) hA
  obtain ⟨t2, et2, ht2⟩ := fc_arr_T (A := fun q => s.heap.size ≤ q) (by decide) (fun c hc => hfl c (pg_sub_mem _ _ fl_a2_in c hc)) hA
  obtain ⟨t3, et3, ht3⟩ := fc_arr_T (A := fun q => s.heap.size ≤ q) (by decide) (fun c hc => hfl c (pg_sub_mem _ _ fl_a3_in c hc)) hA
  obtain ⟨k0, v0, ek0, o0, p0, q0, r0⟩ := fc_str_S (A := fun q => s.heap.size ≤ q) (by decide) (fun c hc => hfl c (pg_sub_mem _ _ fl_s0_in c hc)) hA
  obtain ⟨k1, v1, ek1, o1, p1, q1, r1⟩ := fc_str_S (A := fun q => s.heap.size ≤ q) (by decide) (fun c hc => hfl c (pg_sub_mem _ _ fl_s1_in c hc)) hA
  obtain ⟨k2, v2, ek2, o2, p2, q2, r2⟩ := fc_str_S (A := fun q => s.heap.size ≤ q) (by decide) (fun c hc => hfl c (pg_sub_mem _ _ fl_s2_in c hc)) hA
  obtain ⟨k3, v3, ek3, o3, p3, q3, r3⟩ := fc_str_S (A := fun q => s.heap.size ≤ q) (by decide) (fun c hc => hfl c (pg_sub_mem _ _ fl_s3_in c hc)) hA
  obtain ⟨k4, v4, ek4, o4, p4, q4, r4⟩ := fc_str_S (A := fun q => s.heap.size ≤ q) (by decide) (fun c hc => hfl c (pg_sub_mem _ _ fl_s4_in c hc)) hA
  obtain ⟨k5, v5, ek5, o5, p5, q5, r5⟩ := fc_str_S (A := fun q => s.heap.size ≤ q) (by decide) (fun c hc => hfl c (pg_sub_mem _ _ fl_s5_in c hc)) hA
  obtain ⟨k6, v6, ek6, o6, p6, q6, r6⟩ := fc_str_S (A := fun q => s.heap.size ≤ q) (by decide) (fun c hc => hfl c (pg_sub_mem _ _ fl_s6_in c hc)) hA
  obtain ⟨k7, v7, ek7, o7, p7, q7, r7⟩ := fc_str_S (A := fun q => s.heap.size ≤ q) (by decide) (fun c hc => hfl c (pg_sub_mem _ _ fl_s7_in c hc)) hA
  obtain ⟨k8, v8, ek8, o8, p8, q8, r8⟩ := fc_str_S (A := fun q => s.heap.size ≤ q) (by decide) (fun c hc => hfl c (pg_sub_mem _ _ fl_s8_in c hc)) hA
  obtain ⟨k9, v9, ek9, o9, p9, q9, r9⟩ := fc_str_S (A := fun q => s.heap.size ≤ q) (by decide) (fun c hc => hfl c (pg_sub_mem _ _ fl_s9_in c hc)) hA
  obtain ⟨k10, v10, ek10, o10, p10, q10, r10⟩ := fc_str_S (A := fun q => s.heap.size ≤ q) (by decide) (fun c hc => hfl c (pg_sub_mem _ _ fl_s10_in c hc)) hA
  obtain ⟨k11, v11, ek11, o11, p11, q11, r11⟩ := fc_str_S (A := fun q => s.heap.size ≤ q) (by decide) (fun c hc => hfl c (pg_sub_mem _ _ fl_s11_in c hc)) hA
  obtain ⟨k12, v12, ek12, o12, p12, q12, r12⟩ := fc_str_S (A := fun q => s.heap.size ≤ q) (by decide) (fun c hc => hfl c (pg_sub_mem _ _ fl_s12_in c hc)) hA
  have hfi : (Cond.initialized "jdk/internal/util/Preconditions").before args s = true := hTb _ (pg_t_wN (List.mem_map.mpr ⟨_, (show "jdk/internal/util/Preconditions" ∈ pg_In by decide +kernel), rfl⟩))
  have hfr : (Cond.isRef (.static "jdk/internal/util/Preconditions" "SIOOBE_FORMATTER" "Ljava/util/function/BiFunction;")).before args s = true := hfl _ (show Cond.isRef (.static "jdk/internal/util/Preconditions" "SIOOBE_FORMATTER" "Ljava/util/function/BiFunction;") ∈ fl_all by decide +kernel)
  have hfy : (Cond.laysStatic "jdk/internal/util/Preconditions" "SIOOBE_FORMATTER" "Ljava/util/function/BiFunction;").before args s = true := hts _ (of_decide_eq_true (List.all_eq_true.mp fl_l_in _ (show Cond.laysStatic "jdk/internal/util/Preconditions" "SIOOBE_FORMATTER" "Ljava/util/function/BiFunction;" ∈ fl_l by decide +kernel)))
  obtain ⟨fo, hfo⟩ : ∃ fo : Option Nat, va_Z "jdk/internal/util/Preconditions" "SIOOBE_FORMATTER" "Ljava/util/function/BiFunction;" (va_rf fo) (fun q => s.heap.size ≤ q) s s.heap := by
    rcases va_Zqof hfy hfi hfr hA with h | ⟨t, h⟩
    · exact ⟨none, h⟩
    · exact ⟨some t, h⟩
  refine ⟨fun j => cond (Nat.beq j 99) fo (some (([sc, t1, t2, t3, 0, 0, 0, 0, 0, 0, 0, 0, 0, 0, 0, 0, 0, 0, 0, 0, k0, v0, k1, v1, k2, v2, k3, v3, k4, v4, k5, v5, k6, v6, k7, v7, k8, v8, k9, v9, k10, v10, k11, v11, k12, v12] : List Nat).getD j 0)), rfl, ?_, ?_, ?_, ?_, ?_⟩
  · intro j xs i h
    match j, h with
    | 0, h => cases h; exact ⟨rfl, hsc⟩
    | 1, h => cases h; exact ⟨rfl, ht1⟩
    | 2, h => cases h; exact ⟨rfl, ht2⟩
    | 3, h => cases h; exact ⟨rfl, ht3⟩
    | 4, h => cases h
    | 5, h => cases h
    | 6, h => cases h
    | 7, h => cases h
    | 8, h => cases h
    | 9, h => cases h
    | 10, h => cases h
    | 11, h => cases h
    | 12, h => cases h
    | 13, h => cases h
    | 14, h => cases h
    | 15, h => cases h
    | 16, h => cases h
    | 17, h => cases h
    | 18, h => cases h
    | 19, h => cases h
    | 20, h => cases h
    | 21, h => cases h
    | 22, h => cases h
    | 23, h => cases h
    | 24, h => cases h
    | 25, h => cases h
    | 26, h => cases h
    | 27, h => cases h
    | 28, h => cases h
    | 29, h => cases h
    | 30, h => cases h
    | 31, h => cases h
    | 32, h => cases h
    | 33, h => cases h
    | 34, h => cases h
    | 35, h => cases h
    | 36, h => cases h
    | 37, h => cases h
    | 38, h => cases h
    | 39, h => cases h
    | 40, h => cases h
    | 41, h => cases h
    | 42, h => cases h
    | 43, h => cases h
    | 44, h => cases h
    | 45, h => cases h
    | k + 46, h => cases h
  · intro j xs i h
    match j, h with
    | 0, h => cases h
    | 1, h => cases h
    | 2, h => cases h
    | 3, h => cases h
    | 4, h => cases h
    | 5, h => cases h
    | 6, h => cases h
    | 7, h => cases h
    | 8, h => cases h
    | 9, h => cases h
    | 10, h => cases h
    | 11, h => cases h
    | 12, h => cases h
    | 13, h => cases h
    | 14, h => cases h
    | 15, h => cases h
    | 16, h => cases h
    | 17, h => cases h
    | 18, h => cases h
    | 19, h => cases h
    | 20, h => cases h
    | 21, h => cases h; exact ⟨rfl, r0⟩
    | 22, h => cases h
    | 23, h => cases h; exact ⟨rfl, r1⟩
    | 24, h => cases h
    | 25, h => cases h; exact ⟨rfl, r2⟩
    | 26, h => cases h
    | 27, h => cases h; exact ⟨rfl, r3⟩
    | 28, h => cases h
    | 29, h => cases h; exact ⟨rfl, r4⟩
    | 30, h => cases h
    | 31, h => cases h; exact ⟨rfl, r5⟩
    | 32, h => cases h
    | 33, h => cases h; exact ⟨rfl, r6⟩
    | 34, h => cases h
    | 35, h => cases h; exact ⟨rfl, r7⟩
    | 36, h => cases h
    | 37, h => cases h; exact ⟨rfl, r8⟩
    | 38, h => cases h
    | 39, h => cases h; exact ⟨rfl, r9⟩
    | 40, h => cases h
    | 41, h => cases h; exact ⟨rfl, r10⟩
    | 42, h => cases h
    | 43, h => cases h; exact ⟨rfl, r11⟩
    | 44, h => cases h
    | 45, h => cases h; exact ⟨rfl, r12⟩
    | k + 46, h => cases h
  · intro j xs i h
    match j, h with
    | 0, h => cases h
    | 1, h => cases h
    | 2, h => cases h
    | 3, h => cases h
    | 4, h => cases h
    | 5, h => cases h
    | 6, h => cases h
    | 7, h => cases h
    | 8, h => cases h
    | 9, h => cases h
    | 10, h => cases h
    | 11, h => cases h
    | 12, h => cases h
    | 13, h => cases h
    | 14, h => cases h
    | 15, h => cases h
    | 16, h => cases h
    | 17, h => cases h
    | 18, h => cases h
    | 19, h => cases h
    | 20, h => cases h; exact ⟨rfl, o0, p0, q0⟩
    | 21, h => cases h
    | 22, h => cases h; exact ⟨rfl, o1, p1, q1⟩
    | 23, h => cases h
    | 24, h => cases h; exact ⟨rfl, o2, p2, q2⟩
    | 25, h => cases h
    | 26, h => cases h; exact ⟨rfl, o3, p3, q3⟩
    | 27, h => cases h
    | 28, h => cases h; exact ⟨rfl, o4, p4, q4⟩
    | 29, h => cases h
    | 30, h => cases h; exact ⟨rfl, o5, p5, q5⟩
    | 31, h => cases h
    | 32, h => cases h; exact ⟨rfl, o6, p6, q6⟩
    | 33, h => cases h
    | 34, h => cases h; exact ⟨rfl, o7, p7, q7⟩
    | 35, h => cases h
    | 36, h => cases h; exact ⟨rfl, o8, p8, q8⟩
    | 37, h => cases h
    | 38, h => cases h; exact ⟨rfl, o9, p9, q9⟩
    | 39, h => cases h
    | 40, h => cases h; exact ⟨rfl, o10, p10, q10⟩
    | 41, h => cases h
    | 42, h => cases h; exact ⟨rfl, o11, p11, q11⟩
    | 43, h => cases h
    | 44, h => cases h; exact ⟨rfl, o12, p12, q12⟩
    | 45, h => cases h
    | k + 46, h => cases h
  · intro C n d v hm
    have hz := List.all_eq_true.mp fl_si _ hm
    simp only [Bool.and_eq_true, decide_eq_true_eq] at hz
    have hini := hTb _ (pg_t_wN (List.mem_map.mpr ⟨_, hz.1, rfl⟩))
    have hlay := hts _ (of_decide_eq_true (List.all_eq_true.mp fl_l_in _ hz.2))
    simp only [pg_sts, List.mem_cons, Prod.mk.injEq, List.not_mem_nil, or_false] at hm
    rcases hm with ⟨rfl, rfl, rfl, rfl⟩ | ⟨rfl, rfl, rfl, rfl⟩ | ⟨rfl, rfl, rfl, rfl⟩ | ⟨rfl, rfl, rfl, rfl⟩ | ⟨rfl, rfl, rfl, rfl⟩ | ⟨rfl, rfl, rfl, rfl⟩ | ⟨rfl, rfl, rfl, rfl⟩ | ⟨rfl, rfl, rfl, rfl⟩
    · exact va_Zof hlay hini et1 hA
    · exact va_Zof hlay hini (va_eqt (hfl _ (pg_sub_mem _ _ fl_i_in _ (by decide +kernel)))) hA
    · exact hfo
    · exact va_Zof hlay hini (va_eqt (hfl _ (pg_sub_mem _ _ fl_i_in _ (by decide +kernel)))) hA
    · exact va_Zof hlay hini (va_eqt (hfl _ (pg_sub_mem _ _ fl_i_in _ (by decide +kernel)))) hA
    · exact va_Zof hlay hini (va_eqt (hfl _ (pg_sub_mem _ _ fl_i_in _ (by decide +kernel)))) hA
    · exact va_Zof hlay hini et2 hA
    · exact va_Zof hlay hini et3 hA
  · intro own k tx j hm
    have hz : Cond.stringRef own k tx ∈ fl_r := by
      simp only [pg_srs, List.mem_cons, Prod.mk.injEq, List.not_mem_nil, or_false] at hm
      rcases hm with ⟨rfl, rfl, rfl, rfl⟩ | ⟨rfl, rfl, rfl, rfl⟩ | ⟨rfl, rfl, rfl, rfl⟩ | ⟨rfl, rfl, rfl, rfl⟩ | ⟨rfl, rfl, rfl, rfl⟩ | ⟨rfl, rfl, rfl, rfl⟩ | ⟨rfl, rfl, rfl, rfl⟩ | ⟨rfl, rfl, rfl, rfl⟩ | ⟨rfl, rfl, rfl, rfl⟩ | ⟨rfl, rfl, rfl, rfl⟩ | ⟨rfl, rfl, rfl, rfl⟩ | ⟨rfl, rfl, rfl, rfl⟩ | ⟨rfl, rfl, rfl, rfl⟩ <;> decide +kernel
    have hr := hts _ (pg_sub_mem _ _ fl_r_in _ hz)
    simp only [pg_srs, List.mem_cons, Prod.mk.injEq, List.not_mem_nil, or_false] at hm
    rcases hm with ⟨rfl, rfl, rfl, rfl⟩ | ⟨rfl, rfl, rfl, rfl⟩ | ⟨rfl, rfl, rfl, rfl⟩ | ⟨rfl, rfl, rfl, rfl⟩ | ⟨rfl, rfl, rfl, rfl⟩ | ⟨rfl, rfl, rfl, rfl⟩ | ⟨rfl, rfl, rfl, rfl⟩ | ⟨rfl, rfl, rfl, rfl⟩ | ⟨rfl, rfl, rfl, rfl⟩ | ⟨rfl, rfl, rfl, rfl⟩ | ⟨rfl, rfl, rfl, rfl⟩ | ⟨rfl, rfl, rfl, rfl⟩ | ⟨rfl, rfl, rfl, rfl⟩
    · exact ⟨rfl, vk_R.of hr ek0⟩
    · exact ⟨rfl, vk_R.of hr ek1⟩
    · exact ⟨rfl, vk_R.of hr ek2⟩
    · exact ⟨rfl, vk_R.of hr ek3⟩
    · exact ⟨rfl, vk_R.of hr ek4⟩
    · exact ⟨rfl, vk_R.of hr ek5⟩
    · exact ⟨rfl, vk_R.of hr ek6⟩
    · exact ⟨rfl, vk_R.of hr ek7⟩
    · exact ⟨rfl, vk_R.of hr ek8⟩
    · exact ⟨rfl, vk_R.of hr ek9⟩
    · exact ⟨rfl, vk_R.of hr ek10⟩
    · exact ⟨rfl, vk_R.of hr ek11⟩
    · exact ⟨rfl, vk_R.of hr ek12⟩
set_option maxHeartbeats 4000000 in
/-- THE LAW OUT OF THE PURE MACHINE -/
theorem pg_whole (hrun : ∀ xs : List Int32, xs.length ≤ 3584 → pg_Run xs) {p : Program} {e : Env} {s : State} {m : MethodId} {below : List Frame} {meth : Method} {c : Code} (l : Launch) {b L : Nat} {xs : Nat → Int32} (hL : L ≤ 3584) (C0 : lw_At p s m meth c b L xs) : W p l e room_1 s m #[Value.ref b] below meth c s.heap [] 0 0 (lw_Z below #[Value.ref b] s) (entryFrame m ([Value.ref b] : List Value).toArray 4) := by
  obtain ⟨hx, hb, hr, hml, hown, hts, hX, hbl, hlocks, hgv⟩ := C0
  have hlen : ((List.range L).map xs).length = L := by simp
  obtain ⟨f, d, w', mc, ms, hpm, hmc, hms, hd⟩ := hrun ((List.range L).map xs) (by omega)
  have hsc : va_T .int b ((List.range L).map xs).length (fun k => .int (((List.range L).map xs).getD k 0)) (fun q => s.heap.size ≤ q) s s.heap := by
    obtain ⟨scr, e1, e2, e3, e4, e5⟩ := hX
    refine ⟨scr, e1, e2, e3, by omega, by rw [e4, hlen], fun j hj => ?_, Nat.not_le.mpr hbl⟩
    rw [hlen] at hj
    rw [e5 j hj]
    simp [hj]
  obtain ⟨D, cA, hK⟩ := pg_K0 hts
  obtain ⟨ad, had, hO⟩ := pg_Out0 (L := L) (by omega) hts hgv hsc
  have hl := lv_entry ([.ref b]) (n := 4) (Nat.le_of_ble_eq_true rfl)
  rw [lg_entry_eq]
  have S := pm_sound (D := D) (cA := cA) (b := (s.heap.size, ad)) (X := pg_X ((List.range L).map xs)) (l := l) pg_ok f d 318 0 _ [] [] _ w' mc ms hpm p e room_1 s m #[Value.ref b] below meth c s.heap [] 0 0 mc ms _ ⟨hx, hb, hr, hml, hown, fun w hw => hts w (pg_in_tbl hw), hlocks, fun h => absurd h (by decide +kernel), hK, Nat.le_refl _, hO⟩ (pm_ent_ok (b := (s.heap.size, ad)) (n := 4) (vs := [.retAddr 0]) (by
      show lv_has _ 4 (lv_args 0 [va_rf (ad 0)])
      rw [had]
      exact hl)) (pm_ent_len (n := 4) (vs := [.retAddr 0]) (Nat.le_of_ble_eq_true rfl)) (fun k q h => by simp [pm_ws] at h) va_S.rf rfl (show d + 1 ≤ 2048 by omega) (show 64 * (d + 1) ≤ 84000 by omega) (Nat.zero_add _) (Nat.zero_add _) hmc hms
  intro T hT X
  obtain ⟨t, a1, o, b1, b2, ⟨ho, -, -⟩, LL, ⟨hv, hW, hsame⟩, hLL⟩ := S T hT X
  refine ⟨t, a1, o, b1, b2, ho, hv, hW, ?_⟩
  exact hsame.weaken (fun y hy hlt => absurd hlt (Nat.not_lt.mpr (hLL y hy))) hmc hms
