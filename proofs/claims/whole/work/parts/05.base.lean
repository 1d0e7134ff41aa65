/-! Contracts by worlds: what a method finds, what it leaves; starts, ends, calls. -/
abbrev kT (k : Nat → ClassId) : List (ClassId × FieldType) := [(k 0, .boolean), (k 1, .int), (k 2, .long), (k 3, .array .long)]
def PR (D : va_G) (k : Nat → ClassId) (w : va_W) (sz : Nat) (U : State) : Prop := U.heap.size = sz ∧ va_P D vwCl w U.heap ∧ va_K D vwCl (kT k) U ∧ va_D (fun _ => True) w
def AT (D : va_G) (k : Nat → ClassId) (A : Nat → Prop) (w : va_W) (t : State) : Prop := va_P D vwCl w t.heap ∧ va_K D vwCl (kT k) t ∧ va_D A w
/-- words of a throw that a warmer table is not known to keep by themselves -/
def NGd : List MethodName := [⟨"java/lang/RuntimeException", "<init>", "()V"⟩, ⟨"java/lang/Exception", "<init>", "()V"⟩, ⟨"java/lang/Throwable", "<init>", "()V"⟩]
def NGc : List String := ["java/lang/IllegalArgumentException", "java/lang/IllegalStateException", "java/lang/IndexOutOfBoundsException"]
def NGl : List Cond := NGd.map Cond.declares ++ NGc.map (fun x => Cond.castable x x)
def NG (U : State) : Prop := (∀ x ∈ NGd, va_Nw (.declares x) U) ∧ ∀ x ∈ NGc, va_Nw (.castable x x) U
theorem NG.moved {u U : State} (hW : u.WarmedH U.vm) (h : NG u) : NG U := ⟨fun x hx => va_Nw.warmD hW (h.1 x hx), fun x hx => va_Nw.warmC hW (h.2 x hx)⟩
theorem NG.same {u U : State} (hv : u.vm = U.vm) (h : NG u) : NG U := ⟨fun x hx => va_Nw.same rfl hv (h.1 x hx), fun x hx => va_Nw.same rfl hv (h.2 x hx)⟩
theorem NG.all {U : State} (h : NG U) {args : Array Value} : ∀ w ∈ NGl, w.before args U = true := by
  intro w hw
  rcases List.mem_append.mp hw with h1 | h1
  · obtain ⟨x, hx, rfl⟩ := List.mem_map.mp h1
    exact va_Nw.use rfl (h.1 x hx)
  · obtain ⟨x, hx, rfl⟩ := List.mem_map.mp h1
    exact va_Nw.use rfl (h.2 x hx)
/-- the two statics that a throw reads, and those words -/
def ZZ (A : Nat → Prop) (U : State) (H : Heap) : Prop := (vx_Zq Bundle.tN "UNASSIGNED_STACK" Bundle.steD A U H ∧ vx_Zq Bundle.tN "SUPPRESSED_SENTINEL" Bundle.listD A U H) ∧ NG U
def PX (D : va_G) (k : Nat → ClassId) (w : va_W) (sz : Nat) (U : State) : Prop := PR D k w sz U ∧ ZZ (va_A w sz) U U.heap
theorem PR.calling {D : va_G} {k : Nat → ClassId} {w : va_W} {sz : Nat} {U : State} (g : JFrame) (mk : MethodId) (a : Array Value) (h : PR D k w sz U) : PR D k w sz (U.calling g mk a) :=
  ⟨h.1, h.2.1, va_K.moved (u := U) (U := U.calling g mk a) (Vm.Alike.refl U.vm) h.2.2.1, h.2.2.2⟩
theorem ZZ.moved {A : Nat → Prop} {u U : State} {H : Heap} (hW : u.WarmedH U.vm) (h : ZZ A u H) : ZZ A U H := ⟨⟨vx_Zq.moved hW.alike h.1.1, vx_Zq.moved hW.alike h.1.2⟩, h.2.moved hW⟩
theorem ZZ.same {A : Nat → Prop} {u U : State} {H : Heap} (hv : u.vm = U.vm) (h : ZZ A u H) : ZZ A U H := ⟨⟨vx_Zq.moved (by rw [hv]; exact Vm.Alike.refl U.vm) h.1.1, vx_Zq.moved (by rw [hv]; exact Vm.Alike.refl U.vm) h.1.2⟩, h.2.same hv⟩
theorem ZZ.kept {A : Nat → Prop} {U : State} {H H1 : Heap} (h : ZZ A U H) (hq : ∀ a : Nat, a < H.size → ¬ A a → H1[a]? = H[a]?) : ZZ A U H1 := ⟨⟨vx_Zq.kept h.1.1 hq, vx_Zq.kept h.1.2 hq⟩, h.2⟩
theorem ZZ.narrow {A B : Nat → Prop} {U : State} {H : Heap} (h : ZZ A U H) (hAB : ∀ q, B q → A q) : ZZ B U H := ⟨⟨vx_Zq.narrow h.1.1 hAB, vx_Zq.narrow h.1.2 hAB⟩, h.2⟩
theorem PX.calling {D : va_G} {k : Nat → ClassId} {w : va_W} {sz : Nat} {U : State} (g : JFrame) (mk : MethodId) (a : Array Value) (h : PX D k w sz U) : PX D k w sz (U.calling g mk a) :=
  ⟨h.1.calling g mk a, ZZ.same (u := U) (U := U.calling g mk a) rfl h.2⟩
theorem PR.blind {D : va_G} {k : Nat → ClassId} {w : va_W} {sz : Nat} {av : List Value} : FrameBlind (va_Pc av (PR D k w sz)) := fun a _ g mk q => ⟨q.1, q.2.calling g mk a⟩
theorem PX.blind {D : va_G} {k : Nat → ClassId} {w : va_W} {sz : Nat} {av : List Value} : FrameBlind (va_Pc av (PX D k w sz)) := fun a _ g mk q => ⟨q.1, q.2.calling g mk a⟩
abbrev QI (D : va_G) (k : Nat → ClassId) (post : Int32 → va_W → Prop) (A : Nat → Prop) := va_Qi post (AT D k A) A
abbrev QL (D : va_G) (k : Nat → ClassId) (post : Int64 → va_W → Prop) (A : Nat → Prop) := va_Ql post (AT D k A) A
abbrev QV (D : va_G) (k : Nat → ClassId) (post : va_W → Prop) (A : Nat → Prop) := va_Qv post (AT D k A) A
abbrev QX (D : va_G) (k : Nat → ClassId) (px : String → va_W → Prop) (A : Nat → Prop) : String → State → State → Prop := vx_X (fun _ : va_W => True) (fun E w' t => px E w' ∧ AT D k A w' t) A
abbrev MI (l : Launch) (y : MethodName) (ws : List Cond) (rm : Room) (D : va_G) (k : Nat → ClassId) (w : va_W) (sz : Nat) (av : List Value) (post : Int32 → va_W → Prop) (mc ms : Nat) : Prop := Met l y ws rm (va_Pc av (PR D k w sz)) (QI D k post (va_A w sz)) mc ms (va_A w sz)
abbrev ML (l : Launch) (y : MethodName) (ws : List Cond) (rm : Room) (D : va_G) (k : Nat → ClassId) (w : va_W) (sz : Nat) (av : List Value) (post : Int64 → va_W → Prop) (mc ms : Nat) : Prop := Met l y ws rm (va_Pc av (PR D k w sz)) (QL D k post (va_A w sz)) mc ms (va_A w sz)
abbrev MV (l : Launch) (y : MethodName) (ws : List Cond) (rm : Room) (D : va_G) (k : Nat → ClassId) (w : va_W) (sz : Nat) (av : List Value) (post : va_W → Prop) (mc ms : Nat) : Prop := Met l y ws rm (va_Pc av (PR D k w sz)) (QV D k post (va_A w sz)) mc ms (va_A w sz)
abbrev XI (l : Launch) (y : MethodName) (ws : List Cond) (rm : Room) (D : va_G) (k : Nat → ClassId) (w : va_W) (sz : Nat) (av : List Value) (post : Int32 → va_W → Prop) (px : String → va_W → Prop) (mc ms : Nat) : Prop := vx_Met l y ws rm (va_Pc av (PX D k w sz)) (QI D k post (va_A w sz)) (QX D k px (va_A w sz)) mc ms (va_A w sz)
abbrev XL (l : Launch) (y : MethodName) (ws : List Cond) (rm : Room) (D : va_G) (k : Nat → ClassId) (w : va_W) (sz : Nat) (av : List Value) (post : Int64 → va_W → Prop) (px : String → va_W → Prop) (mc ms : Nat) : Prop := vx_Met l y ws rm (va_Pc av (PX D k w sz)) (QL D k post (va_A w sz)) (QX D k px (va_A w sz)) mc ms (va_A w sz)
abbrev XV (l : Launch) (y : MethodName) (ws : List Cond) (rm : Room) (D : va_G) (k : Nat → ClassId) (w : va_W) (sz : Nat) (av : List Value) (post : va_W → Prop) (px : String → va_W → Prop) (mc ms : Nat) : Prop := vx_Met l y ws rm (va_Pc av (PX D k w sz)) (QV D k post (va_A w sz)) (QX D k px (va_A w sz)) mc ms (va_A w sz)
/-- what a body knows -/
abbrev CX (p : Program) (s : State) (m : MethodId) (meth : Method) (c : Code) (cc : ByteArray) (maxL : Nat) (ret : Option FieldType) (ws : List Cond) (av : List Value) (own nm : String) : Prop :=
  p.tables.exec = Jvm.exec ∧ c.code = cc ∧ c.maxLocals = maxL ∧ meth.sig.returnType = ret ∧ (∀ w ∈ ws, w.before av.toArray s = true) ∧ s.vm.findClass own = some m.cls ∧ meth.locks = false ∧ meth.name = nm
/-! lists of cells in blocks -/
theorem wp_mem {D : va_G} {w : va_W} {H : Heap} : va_P D vwCl w H ↔ ∀ q ∈ w, va_at D vwCl q H := by
  constructor
  · intro h q hq
    obtain ⟨i, hi⟩ := List.getElem?_of_mem hq
    exact h i q hi
  · intro h k q hk
    exact h q (List.mem_of_getElem? hk)
theorem wd_in {A : Nat → Prop} {w : va_W} (h : va_D A w) {q : Nat × va_E} (hq : q ∈ w) : A q.1 := by
  obtain ⟨i, hi⟩ := List.getElem?_of_mem hq
  exact h.2 i q hi
theorem wd_l {A : Nat → Prop} {a b : va_W} (h : va_D A (a ++ b)) : va_D A a := by
  refine ⟨fun i j p q hi hj hpq => ?_, fun k q hk => ?_⟩
  · have li := (List.getElem?_eq_some_iff.mp hi).1
    have lj := (List.getElem?_eq_some_iff.mp hj).1
    exact h.1 i j p q (by rw [List.getElem?_append_left li]; exact hi) (by rw [List.getElem?_append_left lj]; exact hj) hpq
  · have lk := (List.getElem?_eq_some_iff.mp hk).1
    exact h.2 k q (by rw [List.getElem?_append_left lk]; exact hk)
theorem wd_r {A : Nat → Prop} {a b : va_W} (h : va_D A (a ++ b)) : va_D A b := by
  have key : ∀ (i : Nat) (q : Nat × va_E), b[i]? = some q → (a ++ b)[a.length + i]? = some q := fun i q hi => by
    rw [List.getElem?_append_right (Nat.le_add_right _ _), Nat.add_sub_cancel_left]; exact hi
  refine ⟨fun i j p q hi hj hpq => ?_, fun k q hk => h.2 _ q (key k q hk)⟩
  have := h.1 _ _ p q (key i p hi) (key j q hj) hpq
  omega
theorem wd_x {A : Nat → Prop} {a b : va_W} (h : va_D A (a ++ b)) {p q : Nat × va_E} (hp : p ∈ a) (hq : q ∈ b) : p.1 ≠ q.1 := by
  obtain ⟨i, hi⟩ := List.getElem?_of_mem hp
  obtain ⟨j, hj⟩ := List.getElem?_of_mem hq
  have li := (List.getElem?_eq_some_iff.mp hi).1
  intro he
  have := h.1 i (a.length + j) p q (by rw [List.getElem?_append_left li]; exact hi) (by rw [List.getElem?_append_right (Nat.le_add_right _ _), Nat.add_sub_cancel_left]; exact hj) he
  omega
theorem wd_app {A : Nat → Prop} {a b : va_W} (h1 : va_D A a) (h2 : va_D A b) (hx : ∀ p ∈ a, ∀ q ∈ b, p.1 ≠ q.1) : va_D A (a ++ b) :=
  va_D.app h1 h2 (fun _ _ p q hp hq => hx p (List.mem_of_getElem? hp) q (List.mem_of_getElem? hq))
theorem va_A_mem {w : va_W} {sz q : Nat} : va_A w sz q ↔ (∃ e, (q, e) ∈ w) ∨ sz ≤ q := by
  constructor
  · rintro (⟨k, e, h⟩ | h)
    · exact Or.inl ⟨e, List.mem_of_getElem? h⟩
    · exact Or.inr h
  · rintro (⟨e, h⟩ | h)
    · obtain ⟨i, hi⟩ := List.getElem?_of_mem h
      exact Or.inl ⟨i, e, hi⟩
    · exact Or.inr h
/-- a callee's block among the caller's -/
theorem blk_free {A : Nat → Prop} {X B Y : va_W} {H0 H : Heap} {locs : List Loc} (hD : va_D A (X ++ (B ++ Y))) (hS : va_S A H0 H locs) (hA : ∀ q, H0.size ≤ q → A q) : ∀ q, va_A B H.size q → A q := by
  intro q h
  rcases va_A_mem.mp h with ⟨e, h⟩ | h
  · exact wd_in hD (List.mem_append_right X (List.mem_append_left Y h) : (q, e) ∈ X ++ (B ++ Y))
  · exact hA q (Nat.le_trans hS.1 h)
theorem blk_join {A : Nat → Prop} {D : va_G} {X B Y B' : va_W} {H H1 : Heap} (hP : va_P D vwCl (X ++ (B ++ Y)) H) (hD : va_D A (X ++ (B ++ Y))) (hk : ∀ q : Nat, q < H.size → ¬ va_A B H.size q → H1[q]? = H[q]?) (hF : ∀ q, va_A B H.size q → A q) (hP1 : va_P D vwCl B' H1) (hD1 : va_D (va_A B H.size) B') :
    va_P D vwCl (X ++ (B' ++ Y)) H1 ∧ va_D A (X ++ (B' ++ Y)) := by
  have hP' := wp_mem.mp hP
  have hB' := wp_mem.mp hP1
  have hDr := wd_r hD
  have offX : ∀ p ∈ X, ¬ va_A B H.size p.1 := by
    intro p hp h
    have hl := (hP' p (List.mem_append_left _ hp)).lt
    rcases va_A_mem.mp h with ⟨e, he⟩ | h
    · exact wd_x hD hp (List.mem_append_left Y he) rfl
    · omega
  have offY : ∀ p ∈ Y, ¬ va_A B H.size p.1 := by
    intro p hp h
    have hl := (hP' p (List.mem_append_right _ (List.mem_append_right _ hp))).lt
    rcases va_A_mem.mp h with ⟨e, he⟩ | h
    · exact wd_x hDr he hp rfl
    · omega
  refine ⟨wp_mem.mpr fun p hp => ?_, wd_app (wd_l hD) (wd_app (hD1.weaken fun k q _ h => hF q.1 h) (wd_r hDr) ?_) ?_⟩
  · rcases List.mem_append.mp hp with h | h
    · exact (hP' p (List.mem_append_left _ h)).kept (hk p.1 (hP' p (List.mem_append_left _ h)).lt (offX p h))
    · rcases List.mem_append.mp h with h | h
      · exact hB' p h
      · have hm : p ∈ X ++ (B ++ Y) := List.mem_append_right _ (List.mem_append_right _ h)
        exact (hP' p hm).kept (hk p.1 (hP' p hm).lt (offY p h))
  · intro p hp q hq he
    exact offY q hq (by rw [← he]; exact wd_in hD1 hp)
  · intro p hp q hq he
    rcases List.mem_append.mp hq with h | h
    · exact offX p hp (by rw [he]; exact wd_in hD1 h)
    · exact wd_x hD hp (List.mem_append_right _ h) he
theorem blk_P {D : va_G} {X B Y : va_W} {H : Heap} (hP : va_P D vwCl (X ++ (B ++ Y)) H) : va_P D vwCl B H := wp_mem.mpr fun q hq => wp_mem.mp hP q (List.mem_append_right _ (List.mem_append_left _ hq))
theorem blk_D {A : Nat → Prop} {X B Y : va_W} (hD : va_D A (X ++ (B ++ Y))) : va_D (fun _ => True) B := (wd_l (wd_r hD)).weaken fun _ _ _ _ => trivial
theorem blk_pre {D : va_G} {k : Nat → ClassId} {A : Nat → Prop} {X B Y : va_W} {s U : State} {H : Heap} (hP : va_P D vwCl (X ++ (B ++ Y)) H) (hD : va_D A (X ++ (B ++ Y))) (hK : va_K D vwCl (kT k) s) (hU : U.heap = H) (hW : s.WarmedH U.vm) : PR D k B H.size U :=
  ⟨by rw [hU], by rw [hU]; exact blk_P hP, va_K.moved hW.alike hK, blk_D hD⟩
theorem blk_preX {D : va_G} {k : Nat → ClassId} {A : Nat → Prop} {X B Y : va_W} {s U : State} {H : Heap} {locs : List Loc} (hP : va_P D vwCl (X ++ (B ++ Y)) H) (hD : va_D A (X ++ (B ++ Y))) (hK : va_K D vwCl (kT k) s) (hZ : ZZ A s s.heap) (hS : va_S A s.heap H locs) (hA : ∀ q, s.heap.size ≤ q → A q) (hU : U.heap = H) (hW : s.WarmedH U.vm) : PX D k B H.size U :=
  ⟨blk_pre hP hD hK hU hW, by rw [hU]; exact ((hZ.kept hS.2.1).narrow (blk_free hD hS hA)).moved hW⟩
/-- a pure callee: its world is empty -/
theorem nil_P {D : va_G} {w : va_W} {H H1 : Heap} (hP : va_P D vwCl w H) (hk : ∀ q : Nat, q < H.size → ¬ va_A ([] : va_W) H.size q → H1[q]? = H[q]?) : va_P D vwCl w H1 :=
  hP.kept fun i q hq => hk q.1 (hP i q hq).lt (fun h => by
    rcases va_A_mem.mp h with ⟨e, he⟩ | h
    · cases he
    · have := (hP i q hq).lt; omega)
theorem nil_free {A : Nat → Prop} {H0 H : Heap} {locs : List Loc} (hS : va_S A H0 H locs) (hA : ∀ q, H0.size ≤ q → A q) : ∀ q, va_A ([] : va_W) H.size q → A q := by
  intro q h
  rcases va_A_mem.mp h with ⟨e, he⟩ | h
  · cases he
  · exact hA q (Nat.le_trans hS.1 h)
theorem nil_pre {D : va_G} {k : Nat → ClassId} {s U : State} {H : Heap} (hK : va_K D vwCl (kT k) s) (hU : U.heap = H) (hW : s.WarmedH U.vm) : PR D k [] H.size U :=
  ⟨by rw [hU], fun k q h => by simp at h, va_K.moved hW.alike hK, ⟨fun i j p q h => by simp at h, fun k q h => by simp at h⟩⟩

section START
variable {l : Launch} {y : MethodName} {ws ws' : List Cond} {rm : Room} {D : va_G} {k : Nat → ClassId} {w : va_W} {sz mc ms : Nat} {av : List Value} {cc : ByteArray} {maxL : Nat} {ret : Option FieldType}
theorem bodyOf {Qc : (Nat → Prop) → Array Value → State → Outcome → State → Prop} (hy : plainName y.cls = true) (hw : ws = Cond.code y cc maxL ret :: ws') (hle : (lg_sl av).length ≤ maxL)
    (body : ∀ (p : Program) (e : Env) (s : State) (m : MethodId) (below : List Frame) (meth : Method) (c : Code) (A : Nat → Prop) (ls : Array Slot), CX p s m meth c cc maxL ret ws av y.cls y.name → (∀ q, s.heap.size ≤ q → A q) → va_K D vwCl (kT k) s → va_P D vwCl w s.heap → va_D A w → va_S A s.heap s.heap [] → lv_has ls maxL (lv_args 0 av) →
      W p l e rm s m av.toArray below meth c s.heap [] 0 0 (MQ below (Qc A) av.toArray s mc ms A) (F0 m 0 ls [])) :
    Met l y ws rm (va_Pc av (PR D k w sz)) (Qc (va_A w sz)) mc ms (va_A w sz) := by
  refine Met.ofW (cc := cc) (maxL := maxL) (ret := ret) hy hw ?_
  intro p e s m args below meth c s₁ B hml hv
  obtain ⟨rfl, hsz, hP, hK, hD0⟩ := hv
  have hts := atoms_spec (ws := ws) B.pre
  have hown : s.vm.findClass y.cls = some m.cls := findClass_of_methodNamed B.named
  have hin : meth.name = y.name := (name_of_methodNamed B.named B.method).1
  subst hsz
  have hD := hD0.self (sz := s.heap.size)
  have hl := lv_entry av (n := maxL) hle
  rw [lg_entry_eq]
  exact body p e s m below meth c (va_A w s.heap.size) _ ⟨B.exec, B.bytes, hml, B.returns, hts, hown, B.notSynchronized, hin⟩ (fun q h => Or.inr h) hK hP hD va_S.rf hl
theorem bodyOfX {Qc : (Nat → Prop) → Array Value → State → Outcome → State → Prop} {XC : (Nat → Prop) → String → State → State → Prop} (hy : plainName y.cls = true) (hw : ws = Cond.code y cc maxL ret :: ws') (hle : (lg_sl av).length ≤ maxL)
    (body : ∀ (p : Program) (e : Env) (s : State) (m : MethodId) (below : List Frame) (meth : Method) (c : Code) (A : Nat → Prop) (ls : Array Slot), CX p s m meth c cc maxL ret ws av y.cls y.name → (∀ x ∈ c.exceptionTable.toList, False) → ZZ A s s.heap → (∀ q, s.heap.size ≤ q → A q) → va_K D vwCl (kT k) s → va_P D vwCl w s.heap → va_D A w → va_S A s.heap s.heap [] → lv_has ls maxL (lv_args 0 av) →
      W p l e rm s m av.toArray below meth c s.heap [] 0 0 (vx_MQ below (Qc A) (XC A) av.toArray s mc ms A) (F0 m 0 ls [])) :
    vx_Met l y ws rm (va_Pc av (PX D k w sz)) (Qc (va_A w sz)) (XC (va_A w sz)) mc ms (va_A w sz) := by
  refine vx_ofW (cc := cc) (maxL := maxL) (ret := ret) hy hw ?_
  intro p e s m args below meth c s₁ B hml htab hv
  obtain ⟨rfl, ⟨hsz, hP, hK, hD0⟩, hZ⟩ := hv
  have hts := atoms_spec (ws := ws) B.pre
  have hown : s.vm.findClass y.cls = some m.cls := findClass_of_methodNamed B.named
  have hin : meth.name = y.name := (name_of_methodNamed B.named B.method).1
  subst hsz
  have hD := hD0.self (sz := s.heap.size)
  have hl := lv_entry av (n := maxL) hle
  rw [lg_entry_eq]
  exact body p e s m below meth c (va_A w s.heap.size) _ ⟨B.exec, B.bytes, hml, B.returns, hts, hown, B.notSynchronized, hin⟩ htab hZ (fun q h => Or.inr h) hK hP hD va_S.rf hl
end START
section ENDS
variable {p : Program} {l : Launch} {e : Env} {R : Room} {s : State} {m : MethodId} {below : List Frame} {meth : Method} {c : Code} {H : Heap} {locs : List Loc} {cells slots : Nat} {Q : State → Prop}
variable {cc bytes : ByteArray} {pc nL maxL index n mc ms ci q0 N : Nat} {ret ret2 : Option FieldType} {Ts ws : List Cond} {rm : Room} {av As rest st0 : List Value} {own nm C : String} {T : u_T} {fs : List Value} {y : MethodName} {ls : Array Slot} {b sz : Nat} {D : va_G} {k : Nat → ClassId} {A : Nat → Prop} {X B Y w w' : va_W}
theorem retI {post : Int32 → va_W → Prop} {v : Int32} (hc : CX p s m meth c cc nL (some .int) Ts av own nm) (hdg : decode cc pc = .ok (.ireturn, 1)) (hK : va_K D vwCl (kT k) s) (hP : va_P D vwCl w' H) (hD : va_D A w') (hS : va_S A s.heap H locs) (hpost : post v w') (h1 : cells ≤ mc) (h2 : slots ≤ ms) :
    W p l e R s m av.toArray below meth c H locs cells slots (MQ below (QI D k post A) av.toArray s mc ms A) (F0 m pc ls [.int v]) := by
  obtain ⟨hx, hb, -, hr, -, -, hlocks, -⟩ := hc
  exact W.widen h1 h2 (W.iret hx hb hr (fun t ht hW => ⟨⟨v, w', rfl, hpost, by rw [ht]; exact hP, va_K.moved hW.alike hK, hD⟩, hS.F ht⟩) hS.2.2 hdg hlocks)
theorem retIX {post : Int32 → va_W → Prop} {XC : String → State → State → Prop} {v : Int32} (hc : CX p s m meth c cc nL (some .int) Ts av own nm) (hdg : decode cc pc = .ok (.ireturn, 1)) (hK : va_K D vwCl (kT k) s) (hP : va_P D vwCl w' H) (hD : va_D A w') (hS : va_S A s.heap H locs) (hpost : post v w') (h1 : cells ≤ mc) (h2 : slots ≤ ms) :
    W p l e R s m av.toArray below meth c H locs cells slots (vx_MQ below (QI D k post A) XC av.toArray s mc ms A) (F0 m pc ls [.int v]) := by
  obtain ⟨hx, hb, -, hr, -, -, hlocks, -⟩ := hc
  exact vx_ret <| W.widen h1 h2 (W.iret hx hb hr (fun t ht hW => ⟨⟨v, w', rfl, hpost, by rw [ht]; exact hP, va_K.moved hW.alike hK, hD⟩, hS.F ht⟩) hS.2.2 hdg hlocks)
theorem retL {post : Int64 → va_W → Prop} {v : Int64} (hc : CX p s m meth c cc nL (some .long) Ts av own nm) (hdg : decode cc pc = .ok (.lreturn, 1)) (hK : va_K D vwCl (kT k) s) (hP : va_P D vwCl w' H) (hD : va_D A w') (hS : va_S A s.heap H locs) (hpost : post v w') (h1 : cells ≤ mc) (h2 : slots ≤ ms) :
    W p l e R s m av.toArray below meth c H locs cells slots (MQ below (QL D k post A) av.toArray s mc ms A) (F0 m pc ls [.long v]) := by
  obtain ⟨hx, hb, -, hr, -, -, hlocks, -⟩ := hc
  exact W.widen h1 h2 (W.lret hx hb hr (fun t ht hW => ⟨⟨v, w', rfl, hpost, by rw [ht]; exact hP, va_K.moved hW.alike hK, hD⟩, hS.F ht⟩) hS.2.2 hdg hlocks)
theorem retLX {post : Int64 → va_W → Prop} {XC : String → State → State → Prop} {v : Int64} (hc : CX p s m meth c cc nL (some .long) Ts av own nm) (hdg : decode cc pc = .ok (.lreturn, 1)) (hK : va_K D vwCl (kT k) s) (hP : va_P D vwCl w' H) (hD : va_D A w') (hS : va_S A s.heap H locs) (hpost : post v w') (h1 : cells ≤ mc) (h2 : slots ≤ ms) :
    W p l e R s m av.toArray below meth c H locs cells slots (vx_MQ below (QL D k post A) XC av.toArray s mc ms A) (F0 m pc ls [.long v]) := by
  obtain ⟨hx, hb, -, hr, -, -, hlocks, -⟩ := hc
  exact vx_ret <| W.widen h1 h2 (W.lret hx hb hr (fun t ht hW => ⟨⟨v, w', rfl, hpost, by rw [ht]; exact hP, va_K.moved hW.alike hK, hD⟩, hS.F ht⟩) hS.2.2 hdg hlocks)
theorem retZ {post : Int32 → va_W → Prop} {v : Int32} (hc : CX p s m meth c cc nL (some .boolean) Ts av own nm) (hdg : decode cc pc = .ok (.ireturn, 1)) (hK : va_K D vwCl (kT k) s) (hP : va_P D vwCl w' H) (hD : va_D A w') (hS : va_S A s.heap H locs) (hv : v = 0 ∨ v = 1) (hpost : post v w') (h1 : cells ≤ mc) (h2 : slots ≤ ms) :
    W p l e R s m av.toArray below meth c H locs cells slots (MQ below (QI D k post A) av.toArray s mc ms A) (F0 m pc ls [.int v]) := by
  obtain ⟨hx, hb, -, hr, -, -, hlocks, -⟩ := hc
  have hn : narrow .boolean (.int v) = .int v := by
    rcases hv with h | h <;> subst h <;> rfl
  exact W.widen h1 h2 (W.zret hx hb hr hn (fun t ht hW => ⟨⟨v, w', rfl, hpost, by rw [ht]; exact hP, va_K.moved hW.alike hK, hD⟩, hS.F ht⟩) hS.2.2 hdg hlocks)
theorem retV {post : va_W → Prop} (hc : CX p s m meth c cc nL none Ts av own nm) (hdg : decode cc pc = .ok (.return_, 1)) (hK : va_K D vwCl (kT k) s) (hP : va_P D vwCl w' H) (hD : va_D A w') (hS : va_S A s.heap H locs) (hpost : post w') (h1 : cells ≤ mc) (h2 : slots ≤ ms) :
    W p l e R s m av.toArray below meth c H locs cells slots (MQ below (QV D k post A) av.toArray s mc ms A) (F0 m pc ls []) := by
  obtain ⟨hx, hb, -, hr, -, -, hlocks, -⟩ := hc
  exact W.widen h1 h2 (W.vret hx hb hr (fun t ht hW => ⟨⟨w', rfl, hpost, by rw [ht]; exact hP, va_K.moved hW.alike hK, hD⟩, hS.F ht⟩) hS.2.2 hdg hlocks)
theorem retZX {post : Int32 → va_W → Prop} {XC : String → State → State → Prop} {v : Int32} (hc : CX p s m meth c cc nL (some .boolean) Ts av own nm) (hdg : decode cc pc = .ok (.ireturn, 1)) (hK : va_K D vwCl (kT k) s) (hP : va_P D vwCl w' H) (hD : va_D A w') (hS : va_S A s.heap H locs) (hv : v = 0 ∨ v = 1) (hpost : post v w') (h1 : cells ≤ mc) (h2 : slots ≤ ms) :
    W p l e R s m av.toArray below meth c H locs cells slots (vx_MQ below (QI D k post A) XC av.toArray s mc ms A) (F0 m pc ls [.int v]) := by
  obtain ⟨hx, hb, -, hr, -, -, hlocks, -⟩ := hc
  have hn : narrow .boolean (.int v) = .int v := by
    rcases hv with h | h <;> subst h <;> rfl
  exact vx_ret <| W.widen h1 h2 (W.zret hx hb hr hn (fun t ht hW => ⟨⟨v, w', rfl, hpost, by rw [ht]; exact hP, va_K.moved hW.alike hK, hD⟩, hS.F ht⟩) hS.2.2 hdg hlocks)
theorem retVX {post : va_W → Prop} {XC : String → State → State → Prop} (hc : CX p s m meth c cc nL none Ts av own nm) (hdg : decode cc pc = .ok (.return_, 1)) (hK : va_K D vwCl (kT k) s) (hP : va_P D vwCl w' H) (hD : va_D A w') (hS : va_S A s.heap H locs) (hpost : post w') (h1 : cells ≤ mc) (h2 : slots ≤ ms) :
    W p l e R s m av.toArray below meth c H locs cells slots (vx_MQ below (QV D k post A) XC av.toArray s mc ms A) (F0 m pc ls []) := by
  obtain ⟨hx, hb, -, hr, -, -, hlocks, -⟩ := hc
  exact vx_ret <| W.widen h1 h2 (W.vret hx hb hr (fun t ht hW => ⟨⟨w', rfl, hpost, by rw [ht]; exact hP, va_K.moved hW.alike hK, hD⟩, hS.F ht⟩) hS.2.2 hdg hlocks)
end ENDS
section CALLS
variable {p : Program} {l : Launch} {e : Env} {R : Room} {s : State} {m : MethodId} {below : List Frame} {meth : Method} {c : Code} {H : Heap} {locs : List Loc} {cells slots : Nat} {Q : State → Prop}
variable {cc bytes : ByteArray} {pc nL maxL index n mc ms ci q0 N : Nat} {ret ret2 : Option FieldType} {Ts ws : List Cond} {rm : Room} {av As rest st0 : List Value} {own nm C : String} {T : u_T} {fs : List Value} {y : MethodName} {ls : Array Slot} {b sz : Nat} {D : va_G} {k : Nat → ClassId} {A : Nat → Prop} {X B Y w w' : va_W}
theorem goVI {post : Int32 → va_W → Prop} (hc : CX p s m meth c cc nL ret Ts av own nm) (hM : MI l y ws rm D k B H.size (.ref b :: As) post mc ms) (cw : CallW R s av.toArray own C index y bytes maxL ret2 ws rm mc ms n) (hP : va_P D vwCl (X ++ (B ++ Y)) H) (hD : va_D A (X ++ (B ++ Y))) (hK : va_K D vwCl (kT k) s) (hS : va_S A s.heap H locs) (hA : ∀ q, s.heap.size ≤ q → A q)
    (hcl : vwCl[ci]? = some (C, T, N)) (he : B[q0]? = some (b, .inr (ci, fs))) (hn : As.length = n) (hl : ls.size = nL) (hstack : st0 = As.reverse ++ .ref b :: rest) (hrm : (rest.map fun v => v.category).sum ≤ 8) (hdg : decode cc pc = .ok (.invokevirtual index, 3)) (hf1 : cells + mc ≤ R.cells) (hf2 : slots + ms ≤ R.slots)
    (kk : ∀ (r : Int32) (B' : va_W) (H1 : Heap) (locs1 : List Loc), post r B' → va_P D vwCl (X ++ (B' ++ Y)) H1 → va_D A (X ++ (B' ++ Y)) → va_S A s.heap H1 locs1 → W p l e R s m av.toArray below meth c H1 locs1 (cells + mc) (slots + ms) Q (F0 m (pc + 3) ls (.int r :: rest))) : W p l e R s m av.toArray below meth c H locs cells slots Q (F0 m pc ls st0) := by
  obtain ⟨hx, hb, hml, -, hts, hown, -, -⟩ := hc
  have hF := blk_free (X := X) (B := B) (Y := Y) hD hS hA
  refine va_calli (va_runV (As := As) (rest := rest) ⟨hx, hb, hml, hown, hts⟩ hM cw ⟨PR.blind, va_recv hK (blk_P hP) hcl he, fun U hU hW => ⟨rfl, blk_pre hP hD hK hU hW⟩⟩ rfl hn hl hstack (lv_room hrm) hdg ⟨hf1, hf2⟩) hS (fun q _ h => hF q h) hF (fun r u t H1 locs1 ht hvm hw hB hz1 hk1 hS1 => ?_)
  obtain ⟨hP1, hK1, hD1⟩ := hB
  rw [ht] at hP1
  obtain ⟨g1, g2⟩ := blk_join hP hD hk1 hF hP1 hD1
  exact kk r u H1 locs1 hw g1 g2 hS1
theorem goVI0 {post : Int32 → va_W → Prop} (hc : CX p s m meth c cc nL ret Ts av own nm) (hM : MI l y ws rm D k B H.size (.ref b :: As) post mc ms) (cw : CallW R s av.toArray own C index y bytes maxL ret2 ws rm mc ms n) (hP : va_P D vwCl B H) (hD : va_D A B) (hK : va_K D vwCl (kT k) s) (hS : va_S A s.heap H locs) (hA : ∀ q, s.heap.size ≤ q → A q)
    (hcl : vwCl[ci]? = some (C, T, N)) (he : B[q0]? = some (b, .inr (ci, fs))) (hn : As.length = n) (hl : ls.size = nL) (hstack : st0 = As.reverse ++ .ref b :: rest) (hrm : (rest.map fun v => v.category).sum ≤ 8) (hdg : decode cc pc = .ok (.invokevirtual index, 3)) (hf1 : cells + mc ≤ R.cells) (hf2 : slots + ms ≤ R.slots)
    (kk : ∀ (r : Int32) (B' : va_W) (H1 : Heap) (locs1 : List Loc), post r B' → va_P D vwCl B' H1 → va_D A B' → va_S A s.heap H1 locs1 → W p l e R s m av.toArray below meth c H1 locs1 (cells + mc) (slots + ms) Q (F0 m (pc + 3) ls (.int r :: rest))) : W p l e R s m av.toArray below meth c H locs cells slots Q (F0 m pc ls st0) :=
  goVI (X := []) (Y := []) hc hM cw (by rw [List.nil_append, List.append_nil]; exact hP) (by rw [List.nil_append, List.append_nil]; exact hD) hK hS hA hcl he hn hl hstack hrm hdg hf1 hf2
    (fun r B' H1 locs1 h1 h2 h3 h4 => kk r B' H1 locs1 h1 (by rw [List.nil_append, List.append_nil] at h2; exact h2) (by rw [List.nil_append, List.append_nil] at h3; exact h3) h4)
theorem goVI2 {X2 : va_W} {post : Int32 → va_W → Prop} (hc : CX p s m meth c cc nL ret Ts av own nm) (hM : MI l y ws rm D k B H.size (.ref b :: As) post mc ms) (cw : CallW R s av.toArray own C index y bytes maxL ret2 ws rm mc ms n) (hP : va_P D vwCl (X ++ (X2 ++ B)) H) (hD : va_D A (X ++ (X2 ++ B))) (hK : va_K D vwCl (kT k) s) (hS : va_S A s.heap H locs) (hA : ∀ q, s.heap.size ≤ q → A q)
    (hcl : vwCl[ci]? = some (C, T, N)) (he : B[q0]? = some (b, .inr (ci, fs))) (hn : As.length = n) (hl : ls.size = nL) (hstack : st0 = As.reverse ++ .ref b :: rest) (hrm : (rest.map fun v => v.category).sum ≤ 8) (hdg : decode cc pc = .ok (.invokevirtual index, 3)) (hf1 : cells + mc ≤ R.cells) (hf2 : slots + ms ≤ R.slots)
    (kk : ∀ (r : Int32) (B' : va_W) (H1 : Heap) (locs1 : List Loc), post r B' → va_P D vwCl (X ++ (X2 ++ B')) H1 → va_D A (X ++ (X2 ++ B')) → va_S A s.heap H1 locs1 → W p l e R s m av.toArray below meth c H1 locs1 (cells + mc) (slots + ms) Q (F0 m (pc + 3) ls (.int r :: rest))) : W p l e R s m av.toArray below meth c H locs cells slots Q (F0 m pc ls st0) :=
  goVI (X := X ++ X2) (Y := []) hc hM cw (by rw [List.append_nil, List.append_assoc]; exact hP) (by rw [List.append_nil, List.append_assoc]; exact hD) hK hS hA hcl he hn hl hstack hrm hdg hf1 hf2
    (fun r B' H1 locs1 h1 h2 h3 h4 => kk r B' H1 locs1 h1 (by rw [List.append_nil, List.append_assoc] at h2; exact h2) (by rw [List.append_nil, List.append_assoc] at h3; exact h3) h4)
theorem goSI {post : Int32 → va_W → Prop} (hc : CX p s m meth c cc nL ret Ts av own nm) (hM : MI l y ws rm D k [] H.size As post mc ms) (cw : CallB R s av.toArray own index y bytes maxL ret2 ws rm mc ms n ∧ (Cond.static y).before av.toArray s = true) (hP : va_P D vwCl w H) (hD : va_D A w) (hK : va_K D vwCl (kT k) s) (hS : va_S A s.heap H locs) (hA : ∀ q, s.heap.size ≤ q → A q)
    (hn : As.length = n) (hl : ls.size = nL) (hstack : st0 = As.reverse ++ rest) (hrm : (rest.map fun v => v.category).sum ≤ 8) (hdg : decode cc pc = .ok (.invokestatic index, 3)) (hf1 : cells + mc ≤ R.cells) (hf2 : slots + ms ≤ R.slots)
    (kk : ∀ (r : Int32) (B' : va_W) (H1 : Heap) (locs1 : List Loc), post r B' → va_P D vwCl w H1 → va_D A w → va_S A s.heap H1 locs1 → W p l e R s m av.toArray below meth c H1 locs1 (cells + mc) (slots + ms) Q (F0 m (pc + 3) ls (.int r :: rest))) : W p l e R s m av.toArray below meth c H locs cells slots Q (F0 m pc ls st0) := by
  obtain ⟨hx, hb, hml, -, hts, hown, -, -⟩ := hc
  have hF := nil_free hS hA
  refine va_calli (va_runS (As := As) (rest := rest) ⟨hx, hb, hml, hown, hts⟩ hM cw ⟨PR.blind, fun U hU hW => ⟨rfl, nil_pre hK hU hW⟩⟩ rfl hn hl hstack (lv_room hrm) hdg ⟨hf1, hf2⟩) hS (fun q _ h => hF q h) hF (fun r u t H1 locs1 ht hvm hw hB hz1 hk1 hS1 => ?_)
  exact kk r u H1 locs1 hw (nil_P hP hk1) hD hS1
theorem goXI {post : Int32 → va_W → Prop} {px : String → va_W → Prop} (hc : CX p s m meth c cc nL ret Ts av own nm) (hM : XI l y ws rm D k B H.size (.ref b :: As) post px mc ms) (cw : CallW R s av.toArray own C index y bytes maxL ret2 ws rm mc ms n) (hP : va_P D vwCl (X ++ (B ++ Y)) H) (hD : va_D A (X ++ (B ++ Y))) (hK : va_K D vwCl (kT k) s) (hZ : ZZ A s s.heap) (hS : va_S A s.heap H locs) (hA : ∀ q, s.heap.size ≤ q → A q)
    (hcl : vwCl[ci]? = some (C, T, N)) (he : B[q0]? = some (b, .inr (ci, fs))) (hn : As.length = n) (hl : ls.size = nL) (hstack : st0 = As.reverse ++ .ref b :: rest) (hrm : (rest.map fun v => v.category).sum ≤ 8) (hdg : decode cc pc = .ok (.invokevirtual index, 3)) (hf1 : cells + mc ≤ R.cells) (hf2 : slots + ms ≤ R.slots)
    (kx : ∀ (E : String) (ce : Cell) (q9 : Addr) (B' : va_W) (H1 : Heap) (locs1 : List Loc), px E B' → va_P D vwCl (X ++ (B' ++ Y)) H1 → va_D A (X ++ (B' ++ Y)) → va_S A s.heap H1 locs1 → H1[q9]? = some ce → ce.vm = .none → s.vm.findClass E = some ce.cls → vx_W p l e R s m av.toArray below meth c H1 locs1 (cells + mc) (slots + ms) Q (F0 m pc ls rest) q9)
    (kk : ∀ (r : Int32) (B' : va_W) (H1 : Heap) (locs1 : List Loc), post r B' → va_P D vwCl (X ++ (B' ++ Y)) H1 → va_D A (X ++ (B' ++ Y)) → va_S A s.heap H1 locs1 → W p l e R s m av.toArray below meth c H1 locs1 (cells + mc) (slots + ms) Q (F0 m (pc + 3) ls (.int r :: rest))) : W p l e R s m av.toArray below meth c H locs cells slots Q (F0 m pc ls st0) := by
  obtain ⟨hx, hb, hml, -, hts, hown, -, -⟩ := hc
  have hF := blk_free (X := X) (B := B) (Y := Y) hD hS hA
  refine vx_calli (vx_runV (As := As) (rest := rest) ⟨hx, hb, hml, hown, hts⟩ hM cw ⟨PX.blind, va_recv hK (blk_P hP) hcl he, fun U hU hW => ⟨rfl, blk_preX hP hD hK hZ hS hA hU hW⟩⟩ rfl hn hl hstack (lv_room hrm) hdg ⟨hf1, hf2⟩) hS (fun q _ h => hF q h) hF (fun q _ h => hF q h) (fun E ce q9 u t H1 locs1 ht hvm _ hB hz1 hk1 hS1 hce hcv hcc => ?_) (fun r u t H1 locs1 ht hvm hw hB hz1 hk1 hS1 => ?_)
  · obtain ⟨hpx, hP1, hK1, hD1⟩ := hB
    rw [ht] at hP1
    obtain ⟨g1, g2⟩ := blk_join hP hD hk1 hF hP1 hD1
    exact kx E ce q9 u H1 locs1 hpx g1 g2 hS1 hce hcv hcc
  · obtain ⟨hP1, hK1, hD1⟩ := hB
    rw [ht] at hP1
    obtain ⟨g1, g2⟩ := blk_join hP hD hk1 hF hP1 hD1
    exact kk r u H1 locs1 hw g1 g2 hS1
theorem goXI0 {post : Int32 → va_W → Prop} {px : String → va_W → Prop} (hc : CX p s m meth c cc nL ret Ts av own nm) (hM : XI l y ws rm D k B H.size (.ref b :: As) post px mc ms) (cw : CallW R s av.toArray own C index y bytes maxL ret2 ws rm mc ms n) (hP : va_P D vwCl B H) (hD : va_D A B) (hK : va_K D vwCl (kT k) s) (hZ : ZZ A s s.heap) (hS : va_S A s.heap H locs) (hA : ∀ q, s.heap.size ≤ q → A q)
    (hcl : vwCl[ci]? = some (C, T, N)) (he : B[q0]? = some (b, .inr (ci, fs))) (hn : As.length = n) (hl : ls.size = nL) (hstack : st0 = As.reverse ++ .ref b :: rest) (hrm : (rest.map fun v => v.category).sum ≤ 8) (hdg : decode cc pc = .ok (.invokevirtual index, 3)) (hf1 : cells + mc ≤ R.cells) (hf2 : slots + ms ≤ R.slots)
    (kx : ∀ (E : String) (ce : Cell) (q9 : Addr) (B' : va_W) (H1 : Heap) (locs1 : List Loc), px E B' → va_P D vwCl B' H1 → va_D A B' → va_S A s.heap H1 locs1 → H1[q9]? = some ce → ce.vm = .none → s.vm.findClass E = some ce.cls → vx_W p l e R s m av.toArray below meth c H1 locs1 (cells + mc) (slots + ms) Q (F0 m pc ls rest) q9)
    (kk : ∀ (r : Int32) (B' : va_W) (H1 : Heap) (locs1 : List Loc), post r B' → va_P D vwCl B' H1 → va_D A B' → va_S A s.heap H1 locs1 → W p l e R s m av.toArray below meth c H1 locs1 (cells + mc) (slots + ms) Q (F0 m (pc + 3) ls (.int r :: rest))) : W p l e R s m av.toArray below meth c H locs cells slots Q (F0 m pc ls st0) :=
  goXI (X := []) (Y := []) hc hM cw (by rw [List.nil_append, List.append_nil]; exact hP) (by rw [List.nil_append, List.append_nil]; exact hD) hK hZ hS hA hcl he hn hl hstack hrm hdg hf1 hf2
    (fun E ce q9 B' H1 locs1 h1 h2 h3 h4 h5 h6 h7 => kx E ce q9 B' H1 locs1 h1 (by rw [List.nil_append, List.append_nil] at h2; exact h2) (by rw [List.nil_append, List.append_nil] at h3; exact h3) h4 h5 h6 h7)
    (fun r B' H1 locs1 h1 h2 h3 h4 => kk r B' H1 locs1 h1 (by rw [List.nil_append, List.append_nil] at h2; exact h2) (by rw [List.nil_append, List.append_nil] at h3; exact h3) h4)
theorem goVL {post : Int64 → va_W → Prop} (hc : CX p s m meth c cc nL ret Ts av own nm) (hM : ML l y ws rm D k B H.size (.ref b :: As) post mc ms) (cw : CallW R s av.toArray own C index y bytes maxL ret2 ws rm mc ms n) (hP : va_P D vwCl (X ++ (B ++ Y)) H) (hD : va_D A (X ++ (B ++ Y))) (hK : va_K D vwCl (kT k) s) (hS : va_S A s.heap H locs) (hA : ∀ q, s.heap.size ≤ q → A q)
    (hcl : vwCl[ci]? = some (C, T, N)) (he : B[q0]? = some (b, .inr (ci, fs))) (hn : As.length = n) (hl : ls.size = nL) (hstack : st0 = As.reverse ++ .ref b :: rest) (hrm : (rest.map fun v => v.category).sum ≤ 8) (hdg : decode cc pc = .ok (.invokevirtual index, 3)) (hf1 : cells + mc ≤ R.cells) (hf2 : slots + ms ≤ R.slots)
    (kk : ∀ (r : Int64) (B' : va_W) (H1 : Heap) (locs1 : List Loc), post r B' → va_P D vwCl (X ++ (B' ++ Y)) H1 → va_D A (X ++ (B' ++ Y)) → va_S A s.heap H1 locs1 → W p l e R s m av.toArray below meth c H1 locs1 (cells + mc) (slots + ms) Q (F0 m (pc + 3) ls (.long r :: rest))) : W p l e R s m av.toArray below meth c H locs cells slots Q (F0 m pc ls st0) := by
  obtain ⟨hx, hb, hml, -, hts, hown, -, -⟩ := hc
  have hF := blk_free (X := X) (B := B) (Y := Y) hD hS hA
  refine va_calll (va_runV (As := As) (rest := rest) ⟨hx, hb, hml, hown, hts⟩ hM cw ⟨PR.blind, va_recv hK (blk_P hP) hcl he, fun U hU hW => ⟨rfl, blk_pre hP hD hK hU hW⟩⟩ rfl hn hl hstack (lv_room hrm) hdg ⟨hf1, hf2⟩) hS (fun q _ h => hF q h) hF (fun r u t H1 locs1 ht hvm hw hB hz1 hk1 hS1 => ?_)
  obtain ⟨hP1, hK1, hD1⟩ := hB
  rw [ht] at hP1
  obtain ⟨g1, g2⟩ := blk_join hP hD hk1 hF hP1 hD1
  exact kk r u H1 locs1 hw g1 g2 hS1
theorem goVL0 {post : Int64 → va_W → Prop} (hc : CX p s m meth c cc nL ret Ts av own nm) (hM : ML l y ws rm D k B H.size (.ref b :: As) post mc ms) (cw : CallW R s av.toArray own C index y bytes maxL ret2 ws rm mc ms n) (hP : va_P D vwCl B H) (hD : va_D A B) (hK : va_K D vwCl (kT k) s) (hS : va_S A s.heap H locs) (hA : ∀ q, s.heap.size ≤ q → A q)
    (hcl : vwCl[ci]? = some (C, T, N)) (he : B[q0]? = some (b, .inr (ci, fs))) (hn : As.length = n) (hl : ls.size = nL) (hstack : st0 = As.reverse ++ .ref b :: rest) (hrm : (rest.map fun v => v.category).sum ≤ 8) (hdg : decode cc pc = .ok (.invokevirtual index, 3)) (hf1 : cells + mc ≤ R.cells) (hf2 : slots + ms ≤ R.slots)
    (kk : ∀ (r : Int64) (B' : va_W) (H1 : Heap) (locs1 : List Loc), post r B' → va_P D vwCl B' H1 → va_D A B' → va_S A s.heap H1 locs1 → W p l e R s m av.toArray below meth c H1 locs1 (cells + mc) (slots + ms) Q (F0 m (pc + 3) ls (.long r :: rest))) : W p l e R s m av.toArray below meth c H locs cells slots Q (F0 m pc ls st0) :=
  goVL (X := []) (Y := []) hc hM cw (by rw [List.nil_append, List.append_nil]; exact hP) (by rw [List.nil_append, List.append_nil]; exact hD) hK hS hA hcl he hn hl hstack hrm hdg hf1 hf2
    (fun r B' H1 locs1 h1 h2 h3 h4 => kk r B' H1 locs1 h1 (by rw [List.nil_append, List.append_nil] at h2; exact h2) (by rw [List.nil_append, List.append_nil] at h3; exact h3) h4)
theorem goVL2 {X2 : va_W} {post : Int64 → va_W → Prop} (hc : CX p s m meth c cc nL ret Ts av own nm) (hM : ML l y ws rm D k B H.size (.ref b :: As) post mc ms) (cw : CallW R s av.toArray own C index y bytes maxL ret2 ws rm mc ms n) (hP : va_P D vwCl (X ++ (X2 ++ B)) H) (hD : va_D A (X ++ (X2 ++ B))) (hK : va_K D vwCl (kT k) s) (hS : va_S A s.heap H locs) (hA : ∀ q, s.heap.size ≤ q → A q)
    (hcl : vwCl[ci]? = some (C, T, N)) (he : B[q0]? = some (b, .inr (ci, fs))) (hn : As.length = n) (hl : ls.size = nL) (hstack : st0 = As.reverse ++ .ref b :: rest) (hrm : (rest.map fun v => v.category).sum ≤ 8) (hdg : decode cc pc = .ok (.invokevirtual index, 3)) (hf1 : cells + mc ≤ R.cells) (hf2 : slots + ms ≤ R.slots)
    (kk : ∀ (r : Int64) (B' : va_W) (H1 : Heap) (locs1 : List Loc), post r B' → va_P D vwCl (X ++ (X2 ++ B')) H1 → va_D A (X ++ (X2 ++ B')) → va_S A s.heap H1 locs1 → W p l e R s m av.toArray below meth c H1 locs1 (cells + mc) (slots + ms) Q (F0 m (pc + 3) ls (.long r :: rest))) : W p l e R s m av.toArray below meth c H locs cells slots Q (F0 m pc ls st0) :=
  goVL (X := X ++ X2) (Y := []) hc hM cw (by rw [List.append_nil, List.append_assoc]; exact hP) (by rw [List.append_nil, List.append_assoc]; exact hD) hK hS hA hcl he hn hl hstack hrm hdg hf1 hf2
    (fun r B' H1 locs1 h1 h2 h3 h4 => kk r B' H1 locs1 h1 (by rw [List.append_nil, List.append_assoc] at h2; exact h2) (by rw [List.append_nil, List.append_assoc] at h3; exact h3) h4)
theorem goSL {post : Int64 → va_W → Prop} (hc : CX p s m meth c cc nL ret Ts av own nm) (hM : ML l y ws rm D k [] H.size As post mc ms) (cw : CallB R s av.toArray own index y bytes maxL ret2 ws rm mc ms n ∧ (Cond.static y).before av.toArray s = true) (hP : va_P D vwCl w H) (hD : va_D A w) (hK : va_K D vwCl (kT k) s) (hS : va_S A s.heap H locs) (hA : ∀ q, s.heap.size ≤ q → A q)
    (hn : As.length = n) (hl : ls.size = nL) (hstack : st0 = As.reverse ++ rest) (hrm : (rest.map fun v => v.category).sum ≤ 8) (hdg : decode cc pc = .ok (.invokestatic index, 3)) (hf1 : cells + mc ≤ R.cells) (hf2 : slots + ms ≤ R.slots)
    (kk : ∀ (r : Int64) (B' : va_W) (H1 : Heap) (locs1 : List Loc), post r B' → va_P D vwCl w H1 → va_D A w → va_S A s.heap H1 locs1 → W p l e R s m av.toArray below meth c H1 locs1 (cells + mc) (slots + ms) Q (F0 m (pc + 3) ls (.long r :: rest))) : W p l e R s m av.toArray below meth c H locs cells slots Q (F0 m pc ls st0) := by
  obtain ⟨hx, hb, hml, -, hts, hown, -, -⟩ := hc
  have hF := nil_free hS hA
  refine va_calll (va_runS (As := As) (rest := rest) ⟨hx, hb, hml, hown, hts⟩ hM cw ⟨PR.blind, fun U hU hW => ⟨rfl, nil_pre hK hU hW⟩⟩ rfl hn hl hstack (lv_room hrm) hdg ⟨hf1, hf2⟩) hS (fun q _ h => hF q h) hF (fun r u t H1 locs1 ht hvm hw hB hz1 hk1 hS1 => ?_)
  exact kk r u H1 locs1 hw (nil_P hP hk1) hD hS1
theorem goXL {post : Int64 → va_W → Prop} {px : String → va_W → Prop} (hc : CX p s m meth c cc nL ret Ts av own nm) (hM : XL l y ws rm D k B H.size (.ref b :: As) post px mc ms) (cw : CallW R s av.toArray own C index y bytes maxL ret2 ws rm mc ms n) (hP : va_P D vwCl (X ++ (B ++ Y)) H) (hD : va_D A (X ++ (B ++ Y))) (hK : va_K D vwCl (kT k) s) (hZ : ZZ A s s.heap) (hS : va_S A s.heap H locs) (hA : ∀ q, s.heap.size ≤ q → A q)
    (hcl : vwCl[ci]? = some (C, T, N)) (he : B[q0]? = some (b, .inr (ci, fs))) (hn : As.length = n) (hl : ls.size = nL) (hstack : st0 = As.reverse ++ .ref b :: rest) (hrm : (rest.map fun v => v.category).sum ≤ 8) (hdg : decode cc pc = .ok (.invokevirtual index, 3)) (hf1 : cells + mc ≤ R.cells) (hf2 : slots + ms ≤ R.slots)
    (kx : ∀ (E : String) (ce : Cell) (q9 : Addr) (B' : va_W) (H1 : Heap) (locs1 : List Loc), px E B' → va_P D vwCl (X ++ (B' ++ Y)) H1 → va_D A (X ++ (B' ++ Y)) → va_S A s.heap H1 locs1 → H1[q9]? = some ce → ce.vm = .none → s.vm.findClass E = some ce.cls → vx_W p l e R s m av.toArray below meth c H1 locs1 (cells + mc) (slots + ms) Q (F0 m pc ls rest) q9)
    (kk : ∀ (r : Int64) (B' : va_W) (H1 : Heap) (locs1 : List Loc), post r B' → va_P D vwCl (X ++ (B' ++ Y)) H1 → va_D A (X ++ (B' ++ Y)) → va_S A s.heap H1 locs1 → W p l e R s m av.toArray below meth c H1 locs1 (cells + mc) (slots + ms) Q (F0 m (pc + 3) ls (.long r :: rest))) : W p l e R s m av.toArray below meth c H locs cells slots Q (F0 m pc ls st0) := by
  obtain ⟨hx, hb, hml, -, hts, hown, -, -⟩ := hc
  have hF := blk_free (X := X) (B := B) (Y := Y) hD hS hA
  refine vx_calll (vx_runV (As := As) (rest := rest) ⟨hx, hb, hml, hown, hts⟩ hM cw ⟨PX.blind, va_recv hK (blk_P hP) hcl he, fun U hU hW => ⟨rfl, blk_preX hP hD hK hZ hS hA hU hW⟩⟩ rfl hn hl hstack (lv_room hrm) hdg ⟨hf1, hf2⟩) hS (fun q _ h => hF q h) hF (fun q _ h => hF q h) (fun E ce q9 u t H1 locs1 ht hvm _ hB hz1 hk1 hS1 hce hcv hcc => ?_) (fun r u t H1 locs1 ht hvm hw hB hz1 hk1 hS1 => ?_)
  · obtain ⟨hpx, hP1, hK1, hD1⟩ := hB
    rw [ht] at hP1
    obtain ⟨g1, g2⟩ := blk_join hP hD hk1 hF hP1 hD1
    exact kx E ce q9 u H1 locs1 hpx g1 g2 hS1 hce hcv hcc
  · obtain ⟨hP1, hK1, hD1⟩ := hB
    rw [ht] at hP1
    obtain ⟨g1, g2⟩ := blk_join hP hD hk1 hF hP1 hD1
    exact kk r u H1 locs1 hw g1 g2 hS1
theorem goXL0 {post : Int64 → va_W → Prop} {px : String → va_W → Prop} (hc : CX p s m meth c cc nL ret Ts av own nm) (hM : XL l y ws rm D k B H.size (.ref b :: As) post px mc ms) (cw : CallW R s av.toArray own C index y bytes maxL ret2 ws rm mc ms n) (hP : va_P D vwCl B H) (hD : va_D A B) (hK : va_K D vwCl (kT k) s) (hZ : ZZ A s s.heap) (hS : va_S A s.heap H locs) (hA : ∀ q, s.heap.size ≤ q → A q)
    (hcl : vwCl[ci]? = some (C, T, N)) (he : B[q0]? = some (b, .inr (ci, fs))) (hn : As.length = n) (hl : ls.size = nL) (hstack : st0 = As.reverse ++ .ref b :: rest) (hrm : (rest.map fun v => v.category).sum ≤ 8) (hdg : decode cc pc = .ok (.invokevirtual index, 3)) (hf1 : cells + mc ≤ R.cells) (hf2 : slots + ms ≤ R.slots)
    (kx : ∀ (E : String) (ce : Cell) (q9 : Addr) (B' : va_W) (H1 : Heap) (locs1 : List Loc), px E B' → va_P D vwCl B' H1 → va_D A B' → va_S A s.heap H1 locs1 → H1[q9]? = some ce → ce.vm = .none → s.vm.findClass E = some ce.cls → vx_W p l e R s m av.toArray below meth c H1 locs1 (cells + mc) (slots + ms) Q (F0 m pc ls rest) q9)
    (kk : ∀ (r : Int64) (B' : va_W) (H1 : Heap) (locs1 : List Loc), post r B' → va_P D vwCl B' H1 → va_D A B' → va_S A s.heap H1 locs1 → W p l e R s m av.toArray below meth c H1 locs1 (cells + mc) (slots + ms) Q (F0 m (pc + 3) ls (.long r :: rest))) : W p l e R s m av.toArray below meth c H locs cells slots Q (F0 m pc ls st0) :=
  goXL (X := []) (Y := []) hc hM cw (by rw [List.nil_append, List.append_nil]; exact hP) (by rw [List.nil_append, List.append_nil]; exact hD) hK hZ hS hA hcl he hn hl hstack hrm hdg hf1 hf2
    (fun E ce q9 B' H1 locs1 h1 h2 h3 h4 h5 h6 h7 => kx E ce q9 B' H1 locs1 h1 (by rw [List.nil_append, List.append_nil] at h2; exact h2) (by rw [List.nil_append, List.append_nil] at h3; exact h3) h4 h5 h6 h7)
    (fun r B' H1 locs1 h1 h2 h3 h4 => kk r B' H1 locs1 h1 (by rw [List.nil_append, List.append_nil] at h2; exact h2) (by rw [List.nil_append, List.append_nil] at h3; exact h3) h4)
theorem goVV {post : va_W → Prop} (hc : CX p s m meth c cc nL ret Ts av own nm) (hM : MV l y ws rm D k B H.size (.ref b :: As) post mc ms) (cw : CallW R s av.toArray own C index y bytes maxL ret2 ws rm mc ms n) (hP : va_P D vwCl (X ++ (B ++ Y)) H) (hD : va_D A (X ++ (B ++ Y))) (hK : va_K D vwCl (kT k) s) (hS : va_S A s.heap H locs) (hA : ∀ q, s.heap.size ≤ q → A q)
    (hcl : vwCl[ci]? = some (C, T, N)) (he : B[q0]? = some (b, .inr (ci, fs))) (hn : As.length = n) (hl : ls.size = nL) (hstack : st0 = As.reverse ++ .ref b :: rest) (hrm : (rest.map fun v => v.category).sum ≤ 8) (hdg : decode cc pc = .ok (.invokevirtual index, 3)) (hf1 : cells + mc ≤ R.cells) (hf2 : slots + ms ≤ R.slots)
    (kk : ∀ (B' : va_W) (H1 : Heap) (locs1 : List Loc), post B' → va_P D vwCl (X ++ (B' ++ Y)) H1 → va_D A (X ++ (B' ++ Y)) → va_S A s.heap H1 locs1 → W p l e R s m av.toArray below meth c H1 locs1 (cells + mc) (slots + ms) Q (F0 m (pc + 3) ls rest)) : W p l e R s m av.toArray below meth c H locs cells slots Q (F0 m pc ls st0) := by
  obtain ⟨hx, hb, hml, -, hts, hown, -, -⟩ := hc
  have hF := blk_free (X := X) (B := B) (Y := Y) hD hS hA
  refine va_callv (va_runV (As := As) (rest := rest) ⟨hx, hb, hml, hown, hts⟩ hM cw ⟨PR.blind, va_recv hK (blk_P hP) hcl he, fun U hU hW => ⟨rfl, blk_pre hP hD hK hU hW⟩⟩ rfl hn hl hstack (lv_room hrm) hdg ⟨hf1, hf2⟩) hS (fun q _ h => hF q h) hF (fun u t H1 locs1 ht hvm hw hB hz1 hk1 hS1 => ?_)
  obtain ⟨hP1, hK1, hD1⟩ := hB
  rw [ht] at hP1
  obtain ⟨g1, g2⟩ := blk_join hP hD hk1 hF hP1 hD1
  exact kk u H1 locs1 hw g1 g2 hS1
theorem goVV0 {post : va_W → Prop} (hc : CX p s m meth c cc nL ret Ts av own nm) (hM : MV l y ws rm D k B H.size (.ref b :: As) post mc ms) (cw : CallW R s av.toArray own C index y bytes maxL ret2 ws rm mc ms n) (hP : va_P D vwCl B H) (hD : va_D A B) (hK : va_K D vwCl (kT k) s) (hS : va_S A s.heap H locs) (hA : ∀ q, s.heap.size ≤ q → A q)
    (hcl : vwCl[ci]? = some (C, T, N)) (he : B[q0]? = some (b, .inr (ci, fs))) (hn : As.length = n) (hl : ls.size = nL) (hstack : st0 = As.reverse ++ .ref b :: rest) (hrm : (rest.map fun v => v.category).sum ≤ 8) (hdg : decode cc pc = .ok (.invokevirtual index, 3)) (hf1 : cells + mc ≤ R.cells) (hf2 : slots + ms ≤ R.slots)
    (kk : ∀ (B' : va_W) (H1 : Heap) (locs1 : List Loc), post B' → va_P D vwCl B' H1 → va_D A B' → va_S A s.heap H1 locs1 → W p l e R s m av.toArray below meth c H1 locs1 (cells + mc) (slots + ms) Q (F0 m (pc + 3) ls rest)) : W p l e R s m av.toArray below meth c H locs cells slots Q (F0 m pc ls st0) :=
  goVV (X := []) (Y := []) hc hM cw (by rw [List.nil_append, List.append_nil]; exact hP) (by rw [List.nil_append, List.append_nil]; exact hD) hK hS hA hcl he hn hl hstack hrm hdg hf1 hf2
    (fun B' H1 locs1 h1 h2 h3 h4 => kk B' H1 locs1 h1 (by rw [List.nil_append, List.append_nil] at h2; exact h2) (by rw [List.nil_append, List.append_nil] at h3; exact h3) h4)
theorem goVV2 {X2 : va_W} {post : va_W → Prop} (hc : CX p s m meth c cc nL ret Ts av own nm) (hM : MV l y ws rm D k B H.size (.ref b :: As) post mc ms) (cw : CallW R s av.toArray own C index y bytes maxL ret2 ws rm mc ms n) (hP : va_P D vwCl (X ++ (X2 ++ B)) H) (hD : va_D A (X ++ (X2 ++ B))) (hK : va_K D vwCl (kT k) s) (hS : va_S A s.heap H locs) (hA : ∀ q, s.heap.size ≤ q → A q)
    (hcl : vwCl[ci]? = some (C, T, N)) (he : B[q0]? = some (b, .inr (ci, fs))) (hn : As.length = n) (hl : ls.size = nL) (hstack : st0 = As.reverse ++ .ref b :: rest) (hrm : (rest.map fun v => v.category).sum ≤ 8) (hdg : decode cc pc = .ok (.invokevirtual index, 3)) (hf1 : cells + mc ≤ R.cells) (hf2 : slots + ms ≤ R.slots)
    (kk : ∀ (B' : va_W) (H1 : Heap) (locs1 : List Loc), post B' → va_P D vwCl (X ++ (X2 ++ B')) H1 → va_D A (X ++ (X2 ++ B')) → va_S A s.heap H1 locs1 → W p l e R s m av.toArray below meth c H1 locs1 (cells + mc) (slots + ms) Q (F0 m (pc + 3) ls rest)) : W p l e R s m av.toArray below meth c H locs cells slots Q (F0 m pc ls st0) :=
  goVV (X := X ++ X2) (Y := []) hc hM cw (by rw [List.append_nil, List.append_assoc]; exact hP) (by rw [List.append_nil, List.append_assoc]; exact hD) hK hS hA hcl he hn hl hstack hrm hdg hf1 hf2
    (fun B' H1 locs1 h1 h2 h3 h4 => kk B' H1 locs1 h1 (by rw [List.append_nil, List.append_assoc] at h2; exact h2) (by rw [List.append_nil, List.append_assoc] at h3; exact h3) h4)
theorem goSV {post : va_W → Prop} (hc : CX p s m meth c cc nL ret Ts av own nm) (hM : MV l y ws rm D k [] H.size As post mc ms) (cw : CallB R s av.toArray own index y bytes maxL ret2 ws rm mc ms n ∧ (Cond.static y).before av.toArray s = true) (hP : va_P D vwCl w H) (hD : va_D A w) (hK : va_K D vwCl (kT k) s) (hS : va_S A s.heap H locs) (hA : ∀ q, s.heap.size ≤ q → A q)
    (hn : As.length = n) (hl : ls.size = nL) (hstack : st0 = As.reverse ++ rest) (hrm : (rest.map fun v => v.category).sum ≤ 8) (hdg : decode cc pc = .ok (.invokestatic index, 3)) (hf1 : cells + mc ≤ R.cells) (hf2 : slots + ms ≤ R.slots)
    (kk : ∀ (B' : va_W) (H1 : Heap) (locs1 : List Loc), post B' → va_P D vwCl w H1 → va_D A w → va_S A s.heap H1 locs1 → W p l e R s m av.toArray below meth c H1 locs1 (cells + mc) (slots + ms) Q (F0 m (pc + 3) ls rest)) : W p l e R s m av.toArray below meth c H locs cells slots Q (F0 m pc ls st0) := by
  obtain ⟨hx, hb, hml, -, hts, hown, -, -⟩ := hc
  have hF := nil_free hS hA
  refine va_callv (va_runS (As := As) (rest := rest) ⟨hx, hb, hml, hown, hts⟩ hM cw ⟨PR.blind, fun U hU hW => ⟨rfl, nil_pre hK hU hW⟩⟩ rfl hn hl hstack (lv_room hrm) hdg ⟨hf1, hf2⟩) hS (fun q _ h => hF q h) hF (fun u t H1 locs1 ht hvm hw hB hz1 hk1 hS1 => ?_)
  exact kk u H1 locs1 hw (nil_P hP hk1) hD hS1
theorem goXV {post : va_W → Prop} {px : String → va_W → Prop} (hc : CX p s m meth c cc nL ret Ts av own nm) (hM : XV l y ws rm D k B H.size (.ref b :: As) post px mc ms) (cw : CallW R s av.toArray own C index y bytes maxL ret2 ws rm mc ms n) (hP : va_P D vwCl (X ++ (B ++ Y)) H) (hD : va_D A (X ++ (B ++ Y))) (hK : va_K D vwCl (kT k) s) (hZ : ZZ A s s.heap) (hS : va_S A s.heap H locs) (hA : ∀ q, s.heap.size ≤ q → A q)
    (hcl : vwCl[ci]? = some (C, T, N)) (he : B[q0]? = some (b, .inr (ci, fs))) (hn : As.length = n) (hl : ls.size = nL) (hstack : st0 = As.reverse ++ .ref b :: rest) (hrm : (rest.map fun v => v.category).sum ≤ 8) (hdg : decode cc pc = .ok (.invokevirtual index, 3)) (hf1 : cells + mc ≤ R.cells) (hf2 : slots + ms ≤ R.slots)
    (kx : ∀ (E : String) (ce : Cell) (q9 : Addr) (B' : va_W) (H1 : Heap) (locs1 : List Loc), px E B' → va_P D vwCl (X ++ (B' ++ Y)) H1 → va_D A (X ++ (B' ++ Y)) → va_S A s.heap H1 locs1 → H1[q9]? = some ce → ce.vm = .none → s.vm.findClass E = some ce.cls → vx_W p l e R s m av.toArray below meth c H1 locs1 (cells + mc) (slots + ms) Q (F0 m pc ls rest) q9)
    (kk : ∀ (B' : va_W) (H1 : Heap) (locs1 : List Loc), post B' → va_P D vwCl (X ++ (B' ++ Y)) H1 → va_D A (X ++ (B' ++ Y)) → va_S A s.heap H1 locs1 → W p l e R s m av.toArray below meth c H1 locs1 (cells + mc) (slots + ms) Q (F0 m (pc + 3) ls rest)) : W p l e R s m av.toArray below meth c H locs cells slots Q (F0 m pc ls st0) := by
  obtain ⟨hx, hb, hml, -, hts, hown, -, -⟩ := hc
  have hF := blk_free (X := X) (B := B) (Y := Y) hD hS hA
  refine vx_callv (vx_runV (As := As) (rest := rest) ⟨hx, hb, hml, hown, hts⟩ hM cw ⟨PX.blind, va_recv hK (blk_P hP) hcl he, fun U hU hW => ⟨rfl, blk_preX hP hD hK hZ hS hA hU hW⟩⟩ rfl hn hl hstack (lv_room hrm) hdg ⟨hf1, hf2⟩) hS (fun q _ h => hF q h) hF (fun q _ h => hF q h) (fun E ce q9 u t H1 locs1 ht hvm _ hB hz1 hk1 hS1 hce hcv hcc => ?_) (fun u t H1 locs1 ht hvm hw hB hz1 hk1 hS1 => ?_)
  · obtain ⟨hpx, hP1, hK1, hD1⟩ := hB
    rw [ht] at hP1
    obtain ⟨g1, g2⟩ := blk_join hP hD hk1 hF hP1 hD1
    exact kx E ce q9 u H1 locs1 hpx g1 g2 hS1 hce hcv hcc
  · obtain ⟨hP1, hK1, hD1⟩ := hB
    rw [ht] at hP1
    obtain ⟨g1, g2⟩ := blk_join hP hD hk1 hF hP1 hD1
    exact kk u H1 locs1 hw g1 g2 hS1
theorem goXV0 {post : va_W → Prop} {px : String → va_W → Prop} (hc : CX p s m meth c cc nL ret Ts av own nm) (hM : XV l y ws rm D k B H.size (.ref b :: As) post px mc ms) (cw : CallW R s av.toArray own C index y bytes maxL ret2 ws rm mc ms n) (hP : va_P D vwCl B H) (hD : va_D A B) (hK : va_K D vwCl (kT k) s) (hZ : ZZ A s s.heap) (hS : va_S A s.heap H locs) (hA : ∀ q, s.heap.size ≤ q → A q)
    (hcl : vwCl[ci]? = some (C, T, N)) (he : B[q0]? = some (b, .inr (ci, fs))) (hn : As.length = n) (hl : ls.size = nL) (hstack : st0 = As.reverse ++ .ref b :: rest) (hrm : (rest.map fun v => v.category).sum ≤ 8) (hdg : decode cc pc = .ok (.invokevirtual index, 3)) (hf1 : cells + mc ≤ R.cells) (hf2 : slots + ms ≤ R.slots)
    (kx : ∀ (E : String) (ce : Cell) (q9 : Addr) (B' : va_W) (H1 : Heap) (locs1 : List Loc), px E B' → va_P D vwCl B' H1 → va_D A B' → va_S A s.heap H1 locs1 → H1[q9]? = some ce → ce.vm = .none → s.vm.findClass E = some ce.cls → vx_W p l e R s m av.toArray below meth c H1 locs1 (cells + mc) (slots + ms) Q (F0 m pc ls rest) q9)
    (kk : ∀ (B' : va_W) (H1 : Heap) (locs1 : List Loc), post B' → va_P D vwCl B' H1 → va_D A B' → va_S A s.heap H1 locs1 → W p l e R s m av.toArray below meth c H1 locs1 (cells + mc) (slots + ms) Q (F0 m (pc + 3) ls rest)) : W p l e R s m av.toArray below meth c H locs cells slots Q (F0 m pc ls st0) :=
  goXV (X := []) (Y := []) hc hM cw (by rw [List.nil_append, List.append_nil]; exact hP) (by rw [List.nil_append, List.append_nil]; exact hD) hK hZ hS hA hcl he hn hl hstack hrm hdg hf1 hf2
    (fun E ce q9 B' H1 locs1 h1 h2 h3 h4 h5 h6 h7 => kx E ce q9 B' H1 locs1 h1 (by rw [List.nil_append, List.append_nil] at h2; exact h2) (by rw [List.nil_append, List.append_nil] at h3; exact h3) h4 h5 h6 h7)
    (fun B' H1 locs1 h1 h2 h3 h4 => kk B' H1 locs1 h1 (by rw [List.nil_append, List.append_nil] at h2; exact h2) (by rw [List.nil_append, List.append_nil] at h3; exact h3) h4)
theorem outX {Qc : Array Value → State → Outcome → State → Prop} {px : String → va_W → Prop} {E : String} {ce : Cell} {q9 : Addr} (hc : CX p s m meth c cc nL ret Ts av own nm) (htab : ∀ x ∈ c.exceptionTable.toList, False) (hK : va_K D vwCl (kT k) s) (hP : va_P D vwCl w' H) (hD : va_D A w') (hS : va_S A s.heap H locs) (hce : H[q9]? = some ce) (hv : ce.vm = .none) (hcl : s.vm.findClass E = some ce.cls) (hpx : px E w') (h1 : cells ≤ mc) (h2 : slots ≤ ms) :
    vx_W p l e R s m av.toArray below meth c H locs cells slots (vx_MQ below Qc (QX D k px A) av.toArray s mc ms A) (F0 m pc ls rest) q9 :=
  vx_out (fun x hx => (htab x hx).elim) hc.2.2.2.2.2.2.1 hce hv hcl (fun t ht hW => ⟨w', trivial, ⟨hpx, by rw [ht]; exact hP, va_K.moved hW hK, hD⟩, hS.F ht⟩) hS.2.2 h1 h2
/-- 'throw new E()' -/
theorem thr {Qc : Array Value → State → Outcome → State → Prop} {px : String → va_W → Prop} {E : String} {names : List String} {ik ic : Nat} (hc : CX p s m meth c cc nL ret Ts av own nm) (htab : ∀ x ∈ c.exceptionTable.toList, False) (hl0 : l.stackTraces = false) (hZ : ZZ A s s.heap) (hK : va_K D vwCl (kT k) s) (hP : va_P D vwCl w' H) (hD : va_D A w') (hS : va_S A s.heap H locs)
    (hfit : Bundle.fit E = true) (hnames : ∀ n ∈ names, Bundle.fit n = true) (hk : Cond.classLink own ik E ∈ Ts) (hini : Cond.initialized E ∈ Ts) (hat1 : ∀ w ∈ (vx_at0 own ic E names).filter goodWord, w ∈ Ts) (hat2 : ∀ w ∈ (vx_at0 own ic E names).filter (fun w => !goodWord w), w ∈ NGl)
    (hgood : ∀ w ∈ Cond.classLink own ik E :: Cond.initialized E :: vx_at0 own ic E names, vx_ot w = true) (hsz : ls.size = nL)
    (d0 : decode cc pc = .ok (.new ik, 3)) (d3 : decode cc (pc + 3) = .ok (.dup, 1)) (d4 : decode cc (pc + 4) = .ok (.invokespecial ic, 3)) (d7 : decode cc (pc + 7) = .ok (.athrow, 1))
    (hRf : names.length + 3 < R.frames) (hRl : (rest.map fun v => v.category).sum + (13 * (names.length + 1) + 42) ≤ R.locals) (hRc : cells + 1 ≤ R.cells) (hRs : slots + 6 ≤ R.slots) (hpx : px E w') (h1 : cells + 1 ≤ mc) (h2 : slots + 6 ≤ ms) :
    W p l e R s m av.toArray below meth c H locs cells slots (vx_MQ below Qc (QX D k px A) av.toArray s mc ms A) (F0 m pc ls rest) := by
  obtain ⟨hx, hb, hml, -, hts, hown, hlocks, -⟩ := hc
  refine vx_throw0 hx hb hl0 (A := A) hown hfit hnames (hts _ hk) (hts _ hini) (vx_hat (fun w hw => hts w (hat1 w hw)) hat2 hZ.2.all) hgood hZ.1.1 hZ.1.2 hS (hsz.trans hml.symm) d0 d3 d4 d7 (fun x hx => (htab x hx).elim) hRf hRl hRc hRs hlocks (fun t hal hz hk9 => ?_) hS.2.2 h1 h2
  refine ⟨w', trivial, ⟨hpx, hP.kept fun i q hq => hk9 q.1 (hP i q hq).lt, va_K.moved hal hK, hD⟩, Nat.le_trans hS.1 hz, fun q h3 h4 => ?_⟩
  rw [hk9 q (Nat.lt_of_lt_of_le h3 hS.1)]
  exact hS.2.1 q h3 h4
end CALLS
