def R_law : String := "ShareDiskLaw"
def lw_P (b : Addr) (xs : List Int32) (args : Array Value) (s : State) : Prop := args = #[.ref b] ∧ s.IntsAt b xs ∧ xs.length ≤ 3072 ∧ (Jvm.Cond.and given_1 narrow_1).before args s = true
def lw_Q (_ : Array Value) (s : State) (o : Outcome) (t : State) : Prop := o = .returned (some (.int 1)) ∧ Framed s o t [] 601024 7293034
def lw_Z (below : List Frame) (a : Array Value) (s : State) : State → Prop := fun t => ∃ o, t.status = .running ∧ Ended t below o ∧ lw_Q a s o t
/-- the law's own end, with 1 on the stack, nothing written that was there before, its room as the claim has it -/
theorem lw_ret {p : Program} {l : Launch} {e : Env} {s : State} {m : MethodId} {below : List Frame} {meth : Method} {c : Code} {b : Nat} (hx : p.tables.exec = Jvm.exec) (hb : c.code = code) (hr : meth.sig.returnType = ret) (hlocks : meth.locks = false) {pc : Nat} {H : Heap} {ls : Array Slot} (hdg : decode code pc = .ok (.ireturn, 1)) : W p l e room_1 s m #[Value.ref b] below meth c H [] 601024 7293034 (lw_Z below #[Value.ref b] s) (F0 m pc ls [.int 1]) := by
  intro T hT X
  obtain ⟨fs, hret, hrun, hended, hW, hframe⟩ := X.leave (v := some (.int 1)) (hlocks := hlocks) (fun h => by rw [hr] at h; cases h)
  have hmeth' : T.vm.method? m = some meth := X.method'
  refine ⟨T.setFrames fs, ?_, .returned (some (.int 1)), hrun, hended, rfl, ⟨_, rfl⟩, hW, hframe⟩
  jvm_step X.here [X.here.top, hx, hb, hdg, hmeth', hr, ret, narrow_b1]
  (try refine ⟨rfl, ?_⟩); (try refine ⟨rfl, ?_⟩)
  first | (intro acts; rw [hret _ acts rfl rfl rfl]) | rw [hret _ _ rfl rfl rfl]
  exact Steps.refl _
/-- what holds at the law's entry: the machine, the code, the tables' words (any of lw_tbl by 'hts w (by decide +kernel)'), the script of L ints xs at the cell b, what the Statement gives of the start (any of its parts by flat_of_before) -/
def lw_At (p : Program) (s : State) (m : MethodId) (meth : Method) (c : Code) (b L : Nat) (xs : Nat → Int32) : Prop :=
  p.tables.exec = Jvm.exec ∧ c.code = code ∧ meth.sig.returnType = ret ∧ c.maxLocals = 8 ∧ s.vm.findClass R_law = some m.cls ∧ (∀ w ∈ lw_tbl, w.before #[Value.ref b] s = true) ∧ va_X b L xs s s.heap ∧ b < s.heap.size ∧ meth.locks = false ∧ (Jvm.Cond.and given_1 narrow_1).before #[Value.ref b] s = true
/-! The start. -/
theorem INV_0 {d : Nat} {cq rq mq : Nat → Nat} {k : Nat → ClassId} : INV d cq rq mq k (nI 0) (DkW d (cq 0) (rq 0) 0 (nI 0) 0 0 (-1) (nI 0) ++ (ClW cq k (fun _ => 0) (fun _ => 0) (fun _ => 0) (fun _ => 0) (fun _ => 0) (fun _ => 0) (fun _ _ => 0) ++ RqW rq k (fun _ => 0) (fun _ => 0) (fun _ => 0) (fun _ => 0) (fun _ => 0) (fun _ => 0) (fun _ => 0) (fun _ => 0) (fun _ => 0) 0 0 0)) (MoW mq k (nI 0) 0 (nI 0) 0 (fun _ => 0) (fun _ => 0) (fun _ => 0) (fun _ => 0) (fun _ => 0) (fun _ => 0) (fun _ => 0) 0 0 0 (fun _ => 0) (fun _ => 0) (fun _ => 0) (fun _ => 0) (fun _ => 0) (fun _ => 0) (fun _ => 0) (fun _ => 0) (-1) (nI 0)) := by
  refine ⟨_, _, _, _, _, _, _, _, _, _, _, _, _, _, _, _, _, _, _, _, _, _, _, _, _, _, _, _, _, _, _, _, rfl, rfl, ?_, ?_, ⟨0, by decide, rfl⟩, fun i _ => Nat.zero_le _⟩
  · exact ⟨by decide, rfl, fun t h => absurd h (Nat.not_lt_zero _), fun t h => absurd h (Nat.not_lt_zero _), fun t _ => ⟨rfl, rfl⟩, fun t h => absurd h (Nat.not_lt_zero _)⟩
  · exact ⟨fun _ => Or.inl rfl, fun _ _ => rfl, rfl, fun _ _ h => absurd rfl h, fun t h => absurd h (Nat.not_lt_zero _), fun _ _ => rfl, fun _ _ _ => rfl, fun _ _ => ⟨0, Nat.zero_le _, rfl, rfl⟩, fun _ _ _ => rfl, fun _ _ _ _ => (by decide : (0 : Int64) = 0 - 0 - (0 - 0)), Or.inl rfl⟩
theorem ov_spec {args : Array Value} {s : State} (h : (Cond.arrayOver (.array .long)).before args s = true) :
    ∃ (comp c : ClassId) (k : Class), s.vm.findClass (FieldType.array .long).toString = some comp ∧ s.vm.classes[c]? = some k ∧ k.kind = .array comp (.array .long) ∧ s.vm.findClass ("[" ++ (FieldType.array .long).toString) = some c := by
  unfold Cond.before at h
  simp only [Cond.holds, Cond.value, beq_iff_eq] at h
  cases hc : s.vm.findClass (FieldType.array .long).toString with
  | none => rw [hc] at h; cases h
  | some comp =>
    rw [hc] at h
    simp only [Option.bind_some, Option.bind_eq_some_iff, Option.map_eq_some_iff] at h
    obtain ⟨c, hi, k, hk, hb⟩ := h
    obtain ⟨hlt, hp, -⟩ := Array.findIdx?_eq_some_iff_getElem.mp hi
    rw [(Array.getElem?_eq_some_iff.mp hk).2] at hp
    cases hkind : k.kind with
    | array component ty =>
      rw [hkind] at hb hp
      simp at hb hp
      exact ⟨comp, c, k, rfl, hk, by rw [hkind, hp, hb.1], hb.2⟩
    | _ => rw [hkind] at hb; simp at hb
theorem mkA {s : State} {c : ClassId} {kA : Class} {comp : ClassId} {ty : FieldType} (h1 : s.vm.classes[c]? = some kA) (h2 : kA.kind = .array comp ty) : ArrOfT s c ty := fun _ _ => ⟨fun k h => (by cases h), kA, h1, comp, h2⟩
def gD (c0 c1 c2 c3 : ClassId) (i0 i1 i2 i3 : Nat → Nat) : va_G := (fun c => match c with | 0 => c0 | 1 => c1 | 2 => c2 | _ => c3, fun c => match c with | 0 => i0 | 1 => i1 | 2 => i2 | _ => i3)
def gk (a b c d : ClassId) : Nat → ClassId := fun i => match i with | 0 => a | 1 => b | 2 => c | _ => d
theorem mkK {s : State} {c0 c1 c2 c3 : ClassId} {i0 i1 i2 i3 : Nat → Nat} {ka kb kc kd : ClassId} (h0 : u_Kn s RX0 TX0 7 c0 i0) (h1 : u_Kn s RX1 TX1 12 c1 i1) (h2 : u_Kn s RX2 TX2 8 c2 i2) (h3 : u_Kn s RX3 TX3 24 c3 i3)
    (a0 : ArrOfT s ka .boolean ∧ va_RA s ka .boolean) (a1 : ArrOfT s kb .int ∧ va_RA s kb .int) (a2 : ArrOfT s kc .long ∧ va_RA s kc .long) (a3 : ArrOfT s kd (.array .long) ∧ va_RA s kd (.array .long)) : va_K (gD c0 c1 c2 c3 i0 i1 i2 i3) vwCl (kT (gk ka kb kc kd)) s := by
  refine ⟨fun c q hq => ?_, fun j q hq => ?_⟩
  · rcases c with _ | _ | _ | _ | c
    · cases hq; exact h0
    · cases hq; exact h1
    · cases hq; exact h2
    · cases hq; exact h3
    · cases hq
  · rcases j with _ | _ | _ | _ | j
    · cases hq; exact a0
    · cases hq; exact a1
    · cases hq; exact a2
    · cases hq; exact a3
    · cases hq
set_option maxRecDepth 20000 in
theorem mwL_law_0 : Cond.instantiable RX0 7 ∈ wsL_law := by decide +kernel
set_option maxRecDepth 20000 in
theorem mwL_law_1 : Cond.instantiable RX1 12 ∈ wsL_law := by decide +kernel
set_option maxRecDepth 20000 in
theorem mwL_law_2 : Cond.instantiable RX2 8 ∈ wsL_law := by decide +kernel
set_option maxRecDepth 20000 in
theorem mwL_law_3 : Cond.instantiable RX3 24 ∈ wsL_law := by decide +kernel
set_option maxRecDepth 20000 in
theorem mwL_law_4 : Cond.arrayClass .boolean ∈ wsL_law := by decide +kernel
set_option maxRecDepth 20000 in
theorem mwL_law_5 : Cond.arrayClass .int ∈ wsL_law := by decide +kernel
set_option maxRecDepth 20000 in
theorem mwL_law_6 : Cond.arrayClass .long ∈ wsL_law := by decide +kernel
set_option maxRecDepth 20000 in
theorem mwL_law_7 : Cond.classLink RL 8 RX2 ∈ wsL_law := by decide +kernel
set_option maxRecDepth 20000 in
theorem mwL_law_8 : Cond.initialized RX2 ∈ wsL_law := by decide +kernel
set_option maxRecDepth 20000 in
theorem mwL_law_9 : Cond.methodLink RL 42 yX2_init ∈ wsL_law := by decide +kernel
set_option maxRecDepth 20000 in
theorem mwL_law_10 : Cond.instanceMethod yX2_init ∈ wsL_law := by decide +kernel
set_option maxRecDepth 20000 in
theorem mwL_law_11 : Cond.classLink RL 43 RX3 ∈ wsL_law := by decide +kernel
set_option maxRecDepth 20000 in
theorem mwL_law_12 : Cond.initialized RX3 ∈ wsL_law := by decide +kernel
set_option maxRecDepth 20000 in
theorem mwL_law_13 : Cond.methodLink RL 45 yX3_init ∈ wsL_law := by decide +kernel
set_option maxRecDepth 20000 in
theorem mwL_law_14 : Cond.instanceMethod yX3_init ∈ wsL_law := by decide +kernel
set_option maxRecDepth 20000 in
theorem mtb_0 : Cond.arrayOver (.array .long) ∈ lw_tbl := by decide +kernel
set_option maxRecDepth 20000 in
theorem mtb_1 : Cond.methodLinkNest RX2 9 yX0_init RX2 ∈ lw_tbl := by decide +kernel
set_option maxRecDepth 20000 in
theorem mtb_2 : Cond.methodLinkNest RX2 18 yX1_init RX2 ∈ lw_tbl := by decide +kernel
set_option maxRecDepth 20000 in
theorem mtb_3 : Cond.laysStatic Bundle.tN "UNASSIGNED_STACK" Bundle.steD ∈ lw_tbl := by decide +kernel
set_option maxRecDepth 20000 in
theorem mtb_4 : Cond.laysStatic Bundle.tN "SUPPRESSED_SENTINEL" Bundle.listD ∈ lw_tbl := by decide +kernel
set_option maxRecDepth 20000 in
theorem mtb_5 : Cond.initialized Bundle.tN ∈ lw_tbl := by decide +kernel
set_option maxRecDepth 20000 in
theorem mtb_d : ∀ x ∈ NGd, Cond.declares x ∈ lw_tbl := by decide +kernel
set_option maxRecDepth 20000 in
theorem mtb_c : ∀ x ∈ NGc, Cond.castable x x ∈ lw_tbl := by decide +kernel
set_option maxHeartbeats 4000000 in
set_option maxRecDepth 100000 in
theorem lw_run {p : Program} {l : Launch} {e : Env} {s : State} {m : MethodId} {below : List Frame} {meth : Method} {c : Code} {D : va_G} {k : Nat → ClassId} {b L : Nat} {xs : Nat → Int32} (hX : LX p l s m meth c D k b L xs) (hG : (fun U => GA k U ∧ va_Nw (.methodLinkNest RX2 9 yX0_init RX2) U ∧ va_Nw (.methodLinkNest RX2 18 yX1_init RX2) U) s) {ls : Array Slot} (hl : lv_has ls 8 [(0, .ref b)]) :
    W p l e room_1 s m [Value.ref b].toArray below meth c s.heap [] 0 0 (lw_Z below #[Value.ref b] s) (F0 m 0 ls []) := by
  obtain ⟨hc, hK, hZ, hN, hXs, hbl, hL, hl0⟩ := id hX
  obtain ⟨hx, hb, hml, hr, hts, hown, hlocks, hin⟩ := (show _ from hc)
  have hA : ∀ q, s.heap.size ≤ q → LA s q := fun q h => h
  have hP : va_P D vwCl [] s.heap := fun _ _ h => (by cases h)
  have hD : va_D (LA s) [] := ⟨fun _ _ _ _ h => (by cases h), fun _ _ h => (by cases h)⟩
  have hS : va_S (LA s) s.heap s.heap [] := va_S.rf
  refine va_new (ci := 2) (fs := [.null, .null, .long 0, .int (nI 0), .long 0, .long 0, .int (nI 0), .int (nI 0)]) (C := RX2) (T := TX2) (N := 8) hx hb hts inlX2 tyX2 tyX2_ok hown (hts (Cond.classLink RL 8 RX2) mwL_law_7) (hts (Cond.instantiable RX2 8) mwL_law_2) (hts (Cond.initialized RX2) mwL_law_8) hK hP hD hS hA rfl (fun j hj => by rcases (show j = 0 ∨ j = 1 ∨ j = 2 ∨ j = 3 ∨ j = 4 ∨ j = 5 ∨ j = 6 ∨ j = 7 by omega) with rfl | rfl | rfl | rfl | rfl | rfl | rfl | rfl <;> rfl) (Nat.le_of_ble_eq_true rfl) (Nat.le_of_ble_eq_true rfl) dL_law_0 (fun d H hP hD hS => ?_)
  refine lv_dup hx hb dL_law_3 rfl ?_
  refine goCI (X := []) (B := zX2 d) (G := fun U => GA k U ∧ va_Nw (.methodLinkNest RX2 9 yX0_init RX2) U ∧ va_Nw (.methodLinkNest RX2 18 yX1_init RX2) U) G2_same (fun U hW => G2_moved hW hG) hc (kX2_init l D k H.size d) (cwI 0 hts gL_law_X2_init rfl rfl rfl (hts (Cond.initialized RX2) mwL_law_8) (hts (Cond.methodLink RL 42 yX2_init) mwL_law_9) (hts (Cond.instanceMethod yX2_init) mwL_law_10) rfl (by decide +kernel) ⟨(Nat.le_of_ble_eq_true rfl), (Nat.le_of_ble_eq_true rfl)⟩) hP hD hK hS hA hl.1 (Nat.le_of_ble_eq_true rfl) dL_law_4 (Nat.le_of_ble_eq_true rfl) (Nat.le_of_ble_eq_true rfl) (fun B9 H locs hq hP hD hS => ?_)
  obtain ⟨cq, rq, rfl⟩ := hq
  have hP : va_P D vwCl (DkW d (cq 0) (rq 0) 0 (nI 0) 0 0 (-1) (nI 0) ++ (ClW cq k (fun _ => 0) (fun _ => 0) (fun _ => 0) (fun _ => 0) (fun _ => 0) (fun _ => 0) (fun _ _ => 0) ++ RqW rq k (fun _ => 0) (fun _ => 0) (fun _ => 0) (fun _ => 0) (fun _ => 0) (fun _ => 0) (fun _ => 0) (fun _ => 0) (fun _ => 0) 0 0 0)) H := hP
  have hD : va_D (LA s) (DkW d (cq 0) (rq 0) 0 (nI 0) 0 0 (-1) (nI 0) ++ (ClW cq k (fun _ => 0) (fun _ => 0) (fun _ => 0) (fun _ => 0) (fun _ => 0) (fun _ => 0) (fun _ _ => 0) ++ RqW rq k (fun _ => 0) (fun _ => 0) (fun _ => 0) (fun _ => 0) (fun _ => 0) (fun _ => 0) (fun _ => 0) (fun _ => 0) (fun _ => 0) 0 0 0)) := hD
  refine lv_astore_n (lv' := [(1, .ref d), (0, .ref b)]) hx hb dL_law_7 rfl hl (by decide) rfl (fun ls hl => ?_)
  refine va_new (ci := 3) (fs := [.int (nI 0), .long 0, .int (nI 0), .long 0, .null, .null, .null, .null, .null, .null, .null, .int (nI 0), .int (nI 0), .int (nI 0), .null, .null, .null, .null, .null, .null, .null, .null, .int (nI 0), .int (nI 0)]) (C := RX3) (T := TX3) (N := 24) hx hb hts inlX3 tyX3 tyX3_ok hown (hts (Cond.classLink RL 43 RX3) mwL_law_11) (hts (Cond.instantiable RX3 24) mwL_law_3) (hts (Cond.initialized RX3) mwL_law_12) hK hP hD hS hA rfl (fun j hj => by rcases (show j = 0 ∨ j = 1 ∨ j = 2 ∨ j = 3 ∨ j = 4 ∨ j = 5 ∨ j = 6 ∨ j = 7 ∨ j = 8 ∨ j = 9 ∨ j = 10 ∨ j = 11 ∨ j = 12 ∨ j = 13 ∨ j = 14 ∨ j = 15 ∨ j = 16 ∨ j = 17 ∨ j = 18 ∨ j = 19 ∨ j = 20 ∨ j = 21 ∨ j = 22 ∨ j = 23 by omega) with rfl | rfl | rfl | rfl | rfl | rfl | rfl | rfl | rfl | rfl | rfl | rfl | rfl | rfl | rfl | rfl | rfl | rfl | rfl | rfl | rfl | rfl | rfl | rfl <;> rfl) (Nat.le_of_ble_eq_true rfl) (Nat.le_of_ble_eq_true rfl) dL_law_8 (fun m0 H hP hD hS => ?_)
  refine lv_dup hx hb dL_law_11 rfl ?_
  refine goCI (X := DkW d (cq 0) (rq 0) 0 (nI 0) 0 0 (-1) (nI 0) ++ (ClW cq k (fun _ => 0) (fun _ => 0) (fun _ => 0) (fun _ => 0) (fun _ => 0) (fun _ => 0) (fun _ _ => 0) ++ RqW rq k (fun _ => 0) (fun _ => 0) (fun _ => 0) (fun _ => 0) (fun _ => 0) (fun _ => 0) (fun _ => 0) (fun _ => 0) (fun _ => 0) 0 0 0)) (B := zX3 m0) (G := fun _ => True) (fun _ _ _ q => q) (fun _ _ => trivial) hc (kX3_init l D k H.size m0) (cwI 0 hts gL_law_X3_init rfl rfl rfl (hts (Cond.initialized RX3) mwL_law_12) (hts (Cond.methodLink RL 45 yX3_init) mwL_law_13) (hts (Cond.instanceMethod yX3_init) mwL_law_14) rfl (by decide +kernel) ⟨(Nat.le_of_ble_eq_true rfl), (Nat.le_of_ble_eq_true rfl)⟩) hP hD hK hS hA hl.1 (Nat.le_of_ble_eq_true rfl) dL_law_12 (Nat.le_of_ble_eq_true rfl) (Nat.le_of_ble_eq_true rfl) (fun B9 H locs hq hP hD hS => ?_)
  obtain ⟨mq, rfl, rfl⟩ := hq
  refine lv_astore_n (lv' := [(2, .ref (mq 0)), (1, .ref d), (0, .ref b)]) hx hb dL_law_15 rfl hl (by decide) rfl (fun ls hl => ?_)
  refine lv_iconst (v := nI 1) hx hb dL_law_16 (by decide) ?_
  refine nwA (n := nI 1) (N' := 1) (a0 := (1, .inr (.inl (fun _ => 0)))) hx hb (atype := .long) (hts (Cond.arrayClass .long) mwL_law_6) rfl hK hP hD hS hA 2 rfl (fun _ _ h => h) (fun _ => rfl) (by decide) (by decide) (by decide) (Nat.le_of_ble_eq_true rfl) (Nat.le_of_ble_eq_true rfl) dL_law_17 (fun ob H hP hD hS => ?_)
  refine lv_astore_n (lv' := [(3, .ref ob), (2, .ref (mq 0)), (1, .ref d), (0, .ref b)]) hx hb dL_law_19 rfl hl (by decide) rfl (fun ls hl => ?_)
  refine lv_iconst (v := nI 0) hx hb dL_law_20 (by decide) ?_
  refine lv_istore (lv' := [(4, .int (nI 0)), (3, .ref ob), (2, .ref (mq 0)), (1, .ref d), (0, .ref b)]) hx hb dL_law_21 hl (by decide) rfl (fun ls hl => ?_)
  have hP2 : va_P D vwCl (oc ob k (fun _ => 0) :: ((DkW d (cq 0) (rq 0) 0 (nI 0) 0 0 (-1) (nI 0) ++ (ClW cq k (fun _ => 0) (fun _ => 0) (fun _ => 0) (fun _ => 0) (fun _ => 0) (fun _ => 0) (fun _ _ => 0) ++ RqW rq k (fun _ => 0) (fun _ => 0) (fun _ => 0) (fun _ => 0) (fun _ => 0) (fun _ => 0) (fun _ => 0) (fun _ => 0) (fun _ => 0) 0 0 0)) ++ MoW mq k (nI 0) 0 (nI 0) 0 (fun _ => 0) (fun _ => 0) (fun _ => 0) (fun _ => 0) (fun _ => 0) (fun _ => 0) (fun _ => 0) 0 0 0 (fun _ => 0) (fun _ => 0) (fun _ => 0) (fun _ => 0) (fun _ => 0) (fun _ => 0) (fun _ => 0) (fun _ => 0) (-1) (nI 0))) H := wp_mem.mpr fun q hq => wp_mem.mp hP q (by
    rcases List.mem_cons.mp hq with h | h
    · exact List.mem_append_right _ (by rw [h]; exact List.mem_cons_self)
    · exact List.mem_append_left _ h)
  have hD2 : va_D (LA s) ([oc ob k (fun _ => 0)] ++ ((DkW d (cq 0) (rq 0) 0 (nI 0) 0 0 (-1) (nI 0) ++ (ClW cq k (fun _ => 0) (fun _ => 0) (fun _ => 0) (fun _ => 0) (fun _ => 0) (fun _ => 0) (fun _ _ => 0) ++ RqW rq k (fun _ => 0) (fun _ => 0) (fun _ => 0) (fun _ => 0) (fun _ => 0) (fun _ => 0) (fun _ => 0) (fun _ => 0) (fun _ => 0) 0 0 0)) ++ MoW mq k (nI 0) 0 (nI 0) 0 (fun _ => 0) (fun _ => 0) (fun _ => 0) (fun _ => 0) (fun _ => 0) (fun _ => 0) (fun _ => 0) 0 0 0 (fun _ => 0) (fun _ => 0) (fun _ => 0) (fun _ => 0) (fun _ => 0) (fun _ => 0) (fun _ => 0) (fun _ => 0) (-1) (nI 0))) := wd_app (wd_r hD) (wd_l hD) (fun p hp q hq => (wd_x hD hq hp).symm)
  have hfin : ∀ (H : Heap) (locs : List Loc) (ls : Array Slot) (cells slots : Nat), va_S (LA s) s.heap H locs → cells ≤ 601024 → slots ≤ 7293034 → W p l e room_1 s m [Value.ref b].toArray below meth c H locs cells slots (lw_Z below #[Value.ref b] s) (F0 m 615 ls []) := by
    intro H locs ls cells slots hS h1 h2
    refine lv_iconst (v := 1) hx hb dL_law_615 (by decide) ?_
    exact W.widen h1 h2 (va_forget (fun q hq => hS.2.2 q hq) (lw_ret hx hb hr hlocks dL_law_616))
  exact W.widen (Nat.le_of_ble_eq_true rfl) (Nat.le_of_ble_eq_true rfl) (lw_loop hX hfin (L + 1) 0 (by omega) (by omega) H locs ls ⟨nI 0, _, _, _, INV_0, hP2, hD2, hS, lv_sub hl [4, 3, 2, 1, 0] rfl⟩)
set_option maxHeartbeats 4000000 in
set_option maxRecDepth 100000 in
theorem whole_start {p : Program} {e : Env} {s : State} {m : MethodId} {below : List Frame} {meth : Method} {c : Code} (l : Launch) (hl0 : l.stackTraces = false) {b L : Nat} {xs : Nat → Int32} (hL : L ≤ 3072) (C0 : lw_At p s m meth c b L xs) : W p l e room_1 s m #[Value.ref b] below meth c s.heap [] 0 0 (lw_Z below #[Value.ref b] s) (entryFrame m ([Value.ref b] : List Value).toArray 8) := by
  obtain ⟨hx, hb, hr, hml, hown, hts0, hXs, hbl, hlocks, hgv⟩ := C0
  have hts : ∀ w ∈ wsL_law, w.before [Value.ref b].toArray s = true := fun w h => hts0 w (wsL_law_in w h)
  obtain ⟨c0, i0, h0⟩ := u_known (C := RX0) (T := TX0) (N := 7) (n := 7) hts inlX0 (hts (Cond.instantiable RX0 7) mwL_law_0)
  obtain ⟨c1, i1, h1⟩ := u_known (C := RX1) (T := TX1) (N := 12) (n := 12) hts inlX1 (hts (Cond.instantiable RX1 12) mwL_law_1)
  obtain ⟨c2, i2, h2⟩ := u_known (C := RX2) (T := TX2) (N := 8) (n := 8) hts inlX2 (hts (Cond.instantiable RX2 8) mwL_law_2)
  obtain ⟨c3, i3, h3⟩ := u_known (C := RX3) (T := TX3) (N := 24) (n := 24) hts inlX3 (hts (Cond.instantiable RX3 24) mwL_law_3)
  obtain ⟨ka, kA, xa, a1, a2, a3⟩ := Cond.arrayClass_spec (hts (Cond.arrayClass .boolean) mwL_law_4)
  obtain ⟨kb, kB, xb, b1, b2, b3⟩ := Cond.arrayClass_spec (hts (Cond.arrayClass .int) mwL_law_5)
  obtain ⟨kc, kC, xc, g1, g2, g3⟩ := Cond.arrayClass_spec (hts (Cond.arrayClass .long) mwL_law_6)
  obtain ⟨comp, kd, kD, d0, d1, d2, d3⟩ := ov_spec (hts0 _ mtb_0)
  have hcc : comp = kc := Option.some.inj (d0.symm.trans g1)
  subst hcc
  have hK := mkK h0 h1 h2 h3 ⟨mkA a2 a3, a1⟩ ⟨mkA b2 b3, b1⟩ ⟨mkA g2 g3, g1⟩ ⟨mkA d1 d2, d3⟩
  have hfl := flat_of_before _ hgv
  have hnA : ∀ a : Nat, a < s.heap.size → ¬ LA s a := fun a h q => absurd h (Nat.not_lt.mpr q)
  have hZ : ZZ (LA s) s s.heap := ⟨⟨vx_Zqof (hts0 _ mtb_3) (hts0 _ mtb_5) (hfl _ (by decide +kernel)) hnA, vx_Zqof (hts0 _ mtb_4) (hts0 _ mtb_5) (hfl _ (by decide +kernel)) hnA⟩, fun x hx => va_Nw.of rfl (hts0 _ (mtb_d x hx)), fun x hx => va_Nw.of rfl (hts0 _ (mtb_c x hx))⟩
  have hN : NC s := va_Nc.of (hfl (Cond.not (.castable "java/lang/IllegalStateException" "java/lang/IllegalArgumentException")) (by decide +kernel))
  have hl := lv_entry [Value.ref b] (n := 8) (Nat.le_of_ble_eq_true rfl)
  rw [lg_entry_eq]
  exact lw_run (D := gD c0 c1 c2 c3 i0 i1 i2 i3) (k := gk ka kb comp kd) (L := L) (xs := xs) ⟨⟨hx, hb, hml, hr, hts, hown, hlocks, rfl⟩, hK, hZ, hN, hXs, hbl, hL, hl0⟩ ⟨⟨kD, d1, d2⟩, va_Nw.of rfl (hts0 _ mtb_1), va_Nw.of rfl (hts0 _ mtb_2)⟩ hl
