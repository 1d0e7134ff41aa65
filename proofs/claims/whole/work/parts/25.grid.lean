/-! new long[8][8] -/
def gr_o (c : ClassId) (h i : Nat) : Cell := arrV c 8 (fun j => va_rf (if j < i then some (h + 1 + j) else none))
def gr_r (c : ClassId) : Cell := arrV c 8 (fun _ => .long 0)
def gr_f (S : State) (c cr : ClassId) : Nat → State
  | 0 => S.pushCell (gr_o c S.heap.size 0)
  | i + 1 => ((gr_f S c cr i).pushCell (gr_r cr)).setCell S.heap.size (gr_o c S.heap.size (i + 1))
theorem gr_o_set (c : ClassId) (h i : Nat) : (gr_o c h i).setSlot i (.ref (h + 1 + i)) = gr_o c h (i + 1) := by
  unfold gr_o
  rw [arrV_store]
  refine congrArg (arrV c 8) (funext fun j => ?_)
  unfold updV
  by_cases e : j = i
  · subst e; rw [if_pos rfl, if_pos (Nat.lt_succ_self _)]; rfl
  · rw [if_neg e]
    show va_rf (if j < i then some (h + 1 + j) else none) = _
    by_cases h2 : j < i
    · rw [if_pos h2, if_pos (by omega)]
    · rw [if_neg h2, if_neg (by omega)]
theorem gr_cg {c : ClassId} {N : Nat} {f g : Nat → Value} (h : ∀ j, j < N → f j = g j) : arrV c N f = arrV c N g := by
  have e : (fun j : Fin N => f j.val) = fun j : Fin N => g j.val := funext fun j => h j.val j.isLt
  unfold arrV
  rw [e]
theorem gr_o_end (c : ClassId) (h : Nat) : gr_o c h 8 = arrV c 8 (fun j => va_rf (some (h + 1 + j))) := gr_cg fun j hj => by rw [if_pos hj]
theorem gr_facts (S : State) (c cr : ClassId) : ∀ i, (gr_f S c cr i).heap.size = S.heap.size + 1 + i ∧ (gr_f S c cr i).heap[S.heap.size]? = some (gr_o c S.heap.size i) ∧ (gr_f S c cr i).vm = S.vm ∧ (gr_f S c cr i).slotsUsed = S.slotsUsed + 8 + i * 8
  | 0 => ⟨by simp [gr_f], by simp [gr_f], rfl, by simp [gr_f, gr_o, arrV_size]⟩
  | i + 1 => by
    obtain ⟨a, b, d, u⟩ := gr_facts S c cr i
    have hlt : S.heap.size < (gr_f S c cr i).heap.size := by omega
    have hb : ((gr_f S c cr i).pushCell (gr_r cr)).heap[S.heap.size]? = some (gr_o c S.heap.size i) := by rw [State.heap_pushCell_of_lt (h := hlt)]; exact b
    refine ⟨?_, State.heap_setCell_self hb, by simp [gr_f, d], ?_⟩
    · simp [gr_f, State.setCell, a]; omega
    · simp [gr_f, u, gr_r, arrV_size]; omega
theorem gr_top (S : State) (f : JFrame) (c cr : ClassId) : ∀ i, gr_f (S.setTop f) c cr i = (gr_f S c cr i).setTop f
  | 0 => rfl
  | i + 1 => by simp only [gr_f, gr_top S f c cr i, State.heap_setTop, State.pushCell_setTop, State.setCell_setTop]
theorem gr_old (S : State) (c cr : ClassId) {a : Addr} (ha : a < S.heap.size) : ∀ i, (gr_f S c cr i).heap[a]? = S.heap[a]?
  | 0 => State.heap_pushCell_of_lt _ _ ha
  | i + 1 => by
    have f1 := (gr_facts S c cr i).1
    have hlt : a < (gr_f S c cr i).heap.size := Nat.lt_of_lt_of_le ha (by rw [f1]; omega)
    show (((gr_f S c cr i).pushCell (gr_r cr)).setCell S.heap.size _).heap[a]? = _
    rw [State.heap_setCell_other (Nat.ne_of_gt ha), State.heap_pushCell_of_lt (h := hlt)]
    exact gr_old S c cr ha i
theorem gr_row (S : State) (c cr : ClassId) : ∀ i j, j < i → (gr_f S c cr i).heap[S.heap.size + 1 + j]? = some (gr_r cr)
  | 0, _, h => absurd h (Nat.not_lt_zero _)
  | i + 1, j, h => by
    have f1 := (gr_facts S c cr i).1
    show (((gr_f S c cr i).pushCell (gr_r cr)).setCell S.heap.size _).heap[S.heap.size + 1 + j]? = _
    rw [State.heap_setCell_other (show S.heap.size ≠ S.heap.size + 1 + j by omega)]
    by_cases hj : j < i
    · have hlt : S.heap.size + 1 + j < (gr_f S c cr i).heap.size := by omega
      rw [State.heap_pushCell_of_lt (h := hlt)]
      exact gr_row S c cr i j hj
    · rw [show S.heap.size + 1 + j = (gr_f S c cr i).heap.size by omega]
      exact State.heap_pushCell_size _ _
/-- the tables' word of the grid's class: its rows are of the class k 2 -/
def GA (k : Nat → ClassId) (U : State) : Prop := ∃ kA : Class, U.vm.classes[k 3]? = some kA ∧ kA.kind = .array (k 2) (.array .long)
theorem GA.moved {k : Nat → ClassId} {u U : State} (hvm : u.vm.Alike U.vm) (h : GA k u) : GA k U := by
  obtain ⟨kA, h1, h2⟩ := h
  obtain ⟨k', hk', he⟩ := hvm.2.2 _ _ h1
  exact ⟨k', hk', by rw [he]; exact h2⟩
section GRID
variable {E : CtlPost} {e : Env} {d : Bool} {acts : List Action} {s : State}
theorem gr_make {c cr cx : ClassId} {kA kC : Class} (hkA : s.vm.classes[c]? = some kA) (hA : kA.kind = .array cr (.array .long)) (hkC : s.vm.classes[cr]? = some kC) (hC : kC.kind = .array cx .long)
    (h1 : ¬ 8 > e.platform.arrayLengthLimit) (h2 : ¬ 8 * 4 > e.platform.maxHeapBytes) (h3 : ¬ 8 * 8 > e.platform.maxHeapBytes) (h4 : s.heap.size + 9 ≤ e.platform.maxCells) (h5 : s.slotsUsed + 72 ≤ e.platform.maxSlots) {Q : Addr → Pre} (hq : ∀ d' acts', Q s.heap.size d' acts' (gr_f s c cr 8)) :
    wp (multianewarray.make c [8, 8]) Q E e d acts s := by
  rw [multianewarray.make]
  simp only [wp_bind', W.ite, show ¬ (8 : Int32) < 0 by decide, if_false, wp_pure', W.theClass, hkA, hA, Option.some.injEq, exists_eq_left']
  refine W.newArray_of hkA hA h1 h2 (by omega) (by show _ + 8 ≤ _; omega) rfl (fun acts1 => ?_)
  rw [if_neg (by decide), wp_bind', Std.Legacy.Range.forIn_eq_forIn_range']
  show wp (forIn (List.range' 0 8 1) PUnit.unit _) _ E e d acts1 _
  have e0 : s.pushCell { cls := c, slots := Array.replicate (8 : Int32).toNatClampNeg .null } = gr_f s c cr 0 := by
    show s.pushCell _ = s.pushCell _
    congr 1
  rw [e0]
  refine wp_forIn_inv (fun rest S => ∃ i, i ≤ 8 ∧ rest = List.range' i (8 - i) ∧ S = gr_f s c cr i) _ _ ⟨0, by omega, rfl, rfl⟩ ?_ ?_
  · rintro x rest S d' acts' Q' ⟨i, hi, hl, rfl⟩ hnext
    have hlt : i < 8 := by
      rcases Nat.lt_or_ge i 8 with h | h
      · exact h
      · rw [show 8 - i = 0 by omega] at hl; simp at hl
    rw [show 8 - i = (8 - (i + 1)) + 1 by omega, List.range'_succ] at hl
    obtain ⟨rfl, hrest⟩ := List.cons.inj hl
    obtain ⟨f1, f2, f3, f4⟩ := gr_facts s c cr x
    have hkC' : (gr_f s c cr x).vm.classes[cr]? = some kC := by rw [f3]; exact hkC
    rw [multianewarray.make]
    simp only [wp_bind', W.ite, show ¬ (8 : Int32) < 0 by decide, if_false, wp_pure', W.theClass, hkC', hC, Option.some.injEq, exists_eq_left']
    refine W.newArray_of hkC' hC h1 h3 (by omega) (by rw [f4]; show _ + 8 ≤ _; omega) rfl (fun acts2 => ?_)
    have e1 : (gr_f s c cr x).pushCell { cls := cr, slots := Array.replicate (8 : Int32).toNatClampNeg (defaultValue .long) } = (gr_f s c cr x).pushCell (gr_r cr) := by
      congr 1
    rw [e1]
    have hlt0 : s.heap.size < (gr_f s c cr x).heap.size := by omega
    simp only [wp_bind', W.writeLoc, wp_pure']
    refine ⟨gr_o c s.heap.size x, by rw [State.heap_pushCell_of_lt (h := hlt0)]; exact f2, (fun q => by cases q), by show x < (gr_o c s.heap.size x).slots.size; rw [gr_o, arrV_size]; exact hlt, ?_, hnext _ _ _ ⟨x + 1, hlt, hrest, ?_⟩⟩
    · show (((gr_f s c cr x).pushCell (gr_r cr))).fitsSlot c .none x _ = true
      have hkA' : (gr_f s c cr x).vm.classes[c]? = some kA := by rw [f3]; exact hkA
      simp [State.fitsSlot, State.slotType?, hkA', hA]
      rfl
    · rw [f1]
      show State.setCell _ _ _ = ((gr_f s c cr x).pushCell (gr_r cr)).setCell s.heap.size (gr_o c s.heap.size (x + 1))
      rw [← gr_o_set]
  · rintro S d' acts' ⟨i, hi, hl, rfl⟩
    have hi8 : i = 8 := by
      rcases Nat.lt_or_ge i 8 with h | h
      · rw [show 8 - i = (8 - (i + 1)) + 1 by omega, List.range'_succ] at hl; cases hl
      · omega
    subst hi8
    exact hq _ _
end GRID
theorem wp_mem9 {D : va_G} {cl : List vw_C} {w : va_W} {H : Heap} (h : ∀ q ∈ w, va_at D cl q H) : va_P D cl w H := fun _ q hk => h q (List.mem_of_getElem? hk)
section GRID2
variable {p : Program} {l : Launch} {e : Env} {R : Room} {s : State} {m : MethodId} {args : Array Value} {below : List Frame} {meth : Method} {c : Code} {H : Heap} {locs : List Loc} {cells slots : Nat} {Q : State → Prop}
variable {cc : ByteArray} {pc : Nat} {ls : Array Slot} {rest : List Value} {D : va_G} {cl : List vw_C} {A : Nat → Prop} {ws : va_W} {H0 : Heap} {k : Nat → ClassId}
theorem gr_stand {T : State} (X : Stand p l e R s m args below meth c T locs cells slots) (ca cr : ClassId) : ∀ i, Stand p l e R s m args below meth c (gr_f T ca cr i) locs (cells + 1 + i) (slots + 8 + i * 8)
  | 0 => by
    have h := X.pushed (gr_o ca T.heap.size 0)
    rw [show (gr_o ca T.heap.size 0).slots.size = 8 from arrV_size _ _ _] at h
    exact h
  | i + 1 => by
    have Xi := gr_stand X ca cr i
    obtain ⟨f1, f2, f3, f4⟩ := gr_facts T ca cr i
    have hlt0 : T.heap.size < (gr_f T ca cr i).heap.size := by rw [f1]; omega
    have hcell : ((gr_f T ca cr i).pushCell (gr_r cr)).heap[T.heap.size]? = some (gr_o ca T.heap.size i) := by rw [State.heap_pushCell_of_lt (h := hlt0)]; exact f2
    have h := (Xi.pushed (gr_r cr)).stored hcell i (.ref (T.heap.size + 1 + i))
    rw [show (gr_r cr).slots.size = 8 from arrV_size _ _ _, gr_o_set] at h
    have h2 := h.dropFresh (fun x hx => by rcases List.mem_singleton.mp hx with rfl; exact X.heapGrown)
    rw [show slots + 8 + (i + 1) * 8 = slots + 8 + i * 8 + 8 by omega]
    exact h2
/-- what the grid's nine cells are, from the address a on -/
def gr_w (k : Nat → ClassId) (a : Nat) : va_W := (a, .inl (k 3, 8, .inr (.inr (.inr (.inr (fun i => some (a + 1 + i))))))) :: (List.range 8).map fun i => (a + 1 + i, .inl (k 2, 8, .inr (.inl (fun _ => 0))))
theorem gd_new {own : String} {index : Nat} (hexec : p.tables.exec = Jvm.exec) (hb : c.code = cc) (hown : s.vm.findClass own = some m.cls) (hclink : (Cond.classLink own index "[[J").before args s = true) (hG : GA k s) (hK : va_K D cl (kT k) s) (hP : va_P D cl ws H) (hD : va_D A ws) (hS : va_S A H0 H locs) (hA : ∀ q, H0.size ≤ q → A q)
    (hcells : cells + 9 ≤ R.cells) (hslots : slots + 72 ≤ R.slots) (hdg : decode cc pc = .ok (.multianewarray index 2, 4))
    (kk : ∀ (a : Nat) (H1 : Heap), va_P D cl (ws ++ gr_w k a) H1 → va_D A (ws ++ gr_w k a) → va_S A H0 H1 locs → W p l e R s m args below meth c H1 locs (cells + 9) (slots + 72) Q (F0 m (pc + 4) ls (.ref a :: rest))) :
    W p l e R s m args below meth c H locs cells slots Q (F0 m pc ls (.int 8 :: .int 8 :: rest)) := by
  intro T hT X
  obtain ⟨kA, hkA, hkindA⟩ := hG
  obtain ⟨-, kC, hkC, cx, hkindC⟩ := (hK.2 2 _ rfl).1 8 (fun _ => .long 0)
  have hnm : s.vm.findClass "[[J" = some (k 3) := (hK.2 3 _ rfl).2
  obtain ⟨c0, hfc0, hcl⟩ := Cond.classLink_spec hown hclink e.platform (by rw [X.admits.platform])
  cases Option.some.inj (hnm.symm.trans hfc0)
  obtain ⟨hg1, hW1, -⟩ := State.classEntry (e := e) X.warmed hcl
  generalize T.vm.noted m.cls index (.cls (k 3)) = vm1 at hg1 hW1
  obtain ⟨kA1, hkA1, heA⟩ := hW1.alike.2.2 _ _ hkA
  obtain ⟨kC1, hkC1, heC⟩ := hW1.alike.2.2 _ _ hkC
  have hA1 : kA1.kind = .array (k 2) (.array .long) := by rw [heA]; exact hkindA
  have hC1 : kC1.kind = .array cx .long := by rw [heC]; exact hkindC
  have X1 := X.noted hW1
  obtain ⟨r1, r2⟩ := X.roomAbove hcells hslots
  have XF := gr_stand X1 (k 3) (k 2) 8
  obtain ⟨f1, f2, f3, f4⟩ := gr_facts (T.setVm vm1) (k 3) (k 2) 8
  have hTh : (T.setVm vm1).heap = H := hT
  rw [hTh] at f1 f2
  have hold : ∀ x : Nat, x < H.size → (gr_f (T.setVm vm1) (k 3) (k 2) 8).heap[x]? = H[x]? := fun x hx => by
    have := gr_old (T.setVm vm1) (k 3) (k 2) (a := x) (by rw [hTh]; exact hx) 8
    rw [hTh] at this
    exact this
  have hrow : ∀ j : Nat, j < 8 → (gr_f (T.setVm vm1) (k 3) (k 2) 8).heap[H.size + 1 + j]? = some (gr_r (k 2)) := fun j hj => by
    have := gr_row (T.setVm vm1) (k 3) (k 2) 8 j hj
    rw [hTh] at this
    exact this
  have hmem : ∀ x ∈ gr_w k H.size, H.size ≤ x.1 ∧ va_at D cl x (gr_f (T.setVm vm1) (k 3) (k 2) 8).heap := by
    intro x hx
    rcases List.mem_cons.mp hx with rfl | hx
    · refine ⟨Nat.le_refl _, ?_⟩
      show _ = some (vp_cell _ _)
      rw [f2, vp_cell_q]
      rw [gr_o_end]
    · obtain ⟨j, hj, rfl⟩ := List.mem_map.mp hx
      refine ⟨by show H.size ≤ H.size + 1 + j; omega, ?_⟩
      show _ = some (vp_cell _ _)
      rw [hrow j (List.mem_range.mp hj), vp_cell_l]
      rfl
  have hdis : va_D A (gr_w k H.size) := by
    refine ⟨?_, fun i q hq => hA _ (Nat.le_trans hS.1 (hmem q (List.mem_of_getElem? hq)).1)⟩
    have hnth : ∀ (i : Nat) (q : Nat × va_E), (gr_w k H.size)[i]? = some q → q.1 = H.size + i := by
      intro i q hq
      cases i with
      | zero => cases hq; rfl
      | succ i =>
        have hq' : ((List.range 8).map fun i => ((H.size + 1 + i, .inl (k 2, 8, .inr (.inl (fun _ => 0)))) : Nat × va_E))[i]? = some q := hq
        rw [List.getElem?_map] at hq'
        obtain ⟨j, hj, rfl⟩ := Option.map_eq_some_iff.mp hq'
        have hjl := (List.getElem?_eq_some_iff.mp hj)
        obtain ⟨h1, h2⟩ := hjl
        rw [List.getElem_range] at h2
        subst h2
        show H.size + 1 + i = H.size + (i + 1)
        omega
    intro i j a b ha hb2 hab
    have h1 := hnth i a ha
    have h2 := hnth j b hb2
    omega
  obtain ⟨t, a1, b1⟩ := kk H.size _ ((hP.kept fun i q hq => hold q.1 (hP i q hq).lt).app (wp_mem9 fun x hx => (hmem x hx).2)) (wd_app hD hdis (fun x hx y hy he => by
      obtain ⟨i, hi⟩ := List.getElem?_of_mem hx
      have h1 := (hP i x hi).lt
      have h2 := (hmem y hy).1
      omega)) ⟨by rw [f1]; have := hS.1; omega, fun q h1 h2 => (hold q (Nat.lt_of_lt_of_le h1 hS.1)).trans (hS.2.1 q h1 h2), hS.2.2⟩ (gr_f (T.setVm vm1) (k 3) (k 2) 8) rfl XF
  refine ⟨t, ?_, b1⟩
  have l1 : ¬ 8 > e.platform.arrayLengthLimit := by rw [Launch.admits_arrayLengthLimit X.admits]; omega
  have l2 : ¬ 8 * 4 > e.platform.maxHeapBytes := by rw [Launch.admits_maxHeapBytes X.admits]; omega
  have l3 : ¬ 8 * 8 > e.platform.maxHeapBytes := by rw [Launch.admits_maxHeapBytes X.admits]; omega
  jvm_step X.here [hexec, hb, hdg]
  simp only [multianewarray.sem, wp_bind', W.resolveClassAt_links (State.method?_setTop (F0 m pc ls (.int 8 :: .int 8 :: rest)) X.here.top) hg1]
  rw [W.popN, if_neg (by decide)]
  refine ⟨_, State.topJava?_setTop' (s := T.setVm vm1) (F0 m pc ls (.int 8 :: .int 8 :: rest)) X.here.top, [.int 8, .int 8], rest, rfl, rfl, ?_⟩
  simp only [List.mapM_cons, List.mapM_nil, wp_bind', wp_pure']
  refine gr_make (kA := kA1) (kC := kC1) (cr := k 2) (cx := cx) hkA1 hA1 hkC1 hC1 l1 l2 l3 (by show T.heap.size + 9 ≤ _; omega) (by show T.slotsUsed + 72 ≤ _; omega) (fun d' acts' => ?_)
  have eS : ∀ f2 : JFrame, ((T.setTop (F0 m pc ls (.int 8 :: .int 8 :: rest))).setVm vm1).setTop f2 = (T.setVm vm1).setTop f2 := fun f2 => by
    show ((T.setVm vm1).setTop _).setTop _ = _
    rw [State.setTop_setTop]
  rw [eS, gr_top]
  simp only [wp_bind', W.mark, W.pushRef, State.topJava?_setTop' _ XF.here.top, Option.some.injEq, exists_eq_left', State.setTop_setTop, State.heap_setTop]
  intro acts9
  simp [jvm, XF.here.top]
  rw [← hTh] at a1
  exact a1
end GRID2
