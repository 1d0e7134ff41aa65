section
-- ===== PART A: goes FIRST, ahead of the names: the tables' words, and 'selects' of the private methods out of them =====
/-- a private method of a class that the tables say can be made, by its rows of tables_1 -/
def lw_okq (q : MethodName × Nat) : Prop := (q.1.cls ≠ "java/lang/invoke/MethodHandle" ∧ q.1.cls ≠ "java/lang/invoke/VarHandle") ∧ Cond.instantiable q.1.cls q.2 ∈ tables_1 ∧ Cond.privateMethod q.1 ∈ tables_1 ∧ Cond.instanceMethod q.1 ∈ tables_1
theorem lw_p0 : lw_okq (⟨"ShareDisk", "serve", "(II)V"⟩, 8) := ⟨⟨by decide +kernel, by decide +kernel⟩, List.mem_of_getElem? (i := 13) (by decide +kernel), List.mem_of_getElem? (i := 134) (by decide +kernel), List.mem_of_getElem? (i := 135) (by decide +kernel)⟩
theorem lw_p1 : lw_okq (⟨"ShareDisk", "moveHead", "(II)V"⟩, 8) := ⟨⟨by decide +kernel, by decide +kernel⟩, List.mem_of_getElem? (i := 13) (by decide +kernel), List.mem_of_getElem? (i := 150) (by decide +kernel), List.mem_of_getElem? (i := 151) (by decide +kernel)⟩
theorem lw_p2 : lw_okq (⟨"ShareDisk$Requests", "mustKeepOrder", "(II)Z"⟩, 12) := ⟨⟨by decide +kernel, by decide +kernel⟩, List.mem_of_getElem? (i := 54) (by decide +kernel), List.mem_of_getElem? (i := 161) (by decide +kernel), List.mem_of_getElem? (i := 162) (by decide +kernel)⟩
theorem lw_p3 : lw_okq (⟨"ShareDisk", "takeFromSlice", "(I)V"⟩, 8) := ⟨⟨by decide +kernel, by decide +kernel⟩, List.mem_of_getElem? (i := 13) (by decide +kernel), List.mem_of_getElem? (i := 169) (by decide +kernel), List.mem_of_getElem? (i := 170) (by decide +kernel)⟩
theorem lw_p4 : lw_okq (⟨"ShareDisk", "endSlice", "()V"⟩, 8) := ⟨⟨by decide +kernel, by decide +kernel⟩, List.mem_of_getElem? (i := 13) (by decide +kernel), List.mem_of_getElem? (i := 177) (by decide +kernel), List.mem_of_getElem? (i := 178) (by decide +kernel)⟩
theorem lw_p5 : lw_okq (⟨"ShareDisk", "beginSlice", "()V"⟩, 8) := ⟨⟨by decide +kernel, by decide +kernel⟩, List.mem_of_getElem? (i := 13) (by decide +kernel), List.mem_of_getElem? (i := 192) (by decide +kernel), List.mem_of_getElem? (i := 193) (by decide +kernel)⟩
theorem lw_p6 : lw_okq (⟨"ShareDisk$Requests", "turnOf", "(II)I"⟩, 12) := ⟨⟨by decide +kernel, by decide +kernel⟩, List.mem_of_getElem? (i := 54) (by decide +kernel), List.mem_of_getElem? (i := 212) (by decide +kernel), List.mem_of_getElem? (i := 213) (by decide +kernel)⟩
theorem lw_p7 : lw_okq (⟨"ShareDisk", "countOfDisk", "(I)J"⟩, 8) := ⟨⟨by decide +kernel, by decide +kernel⟩, List.mem_of_getElem? (i := 13) (by decide +kernel), List.mem_of_getElem? (i := 236) (by decide +kernel), List.mem_of_getElem? (i := 237) (by decide +kernel)⟩
theorem lw_p8 : lw_okq (⟨"java/lang/Throwable", "fillInStackTrace", "(I)Ljava/lang/Throwable;"⟩, 6) := ⟨⟨by decide +kernel, by decide +kernel⟩, List.mem_of_getElem? (i := 299) (by decide +kernel), List.mem_of_getElem? (i := 297) (by decide +kernel), List.mem_of_getElem? (i := 298) (by decide +kernel)⟩
theorem lw_p9 : lw_okq (⟨"ShareDisk", "requireThere", "(I)V"⟩, 8) := ⟨⟨by decide +kernel, by decide +kernel⟩, List.mem_of_getElem? (i := 13) (by decide +kernel), List.mem_of_getElem? (i := 344) (by decide +kernel), List.mem_of_getElem? (i := 345) (by decide +kernel)⟩
theorem lw_p10 : lw_okq (⟨"ShareDisk$Clients", "forgetLead", "(I)V"⟩, 7) := ⟨⟨by decide +kernel, by decide +kernel⟩, List.mem_of_getElem? (i := 21) (by decide +kernel), List.mem_of_getElem? (i := 387) (by decide +kernel), List.mem_of_getElem? (i := 388) (by decide +kernel)⟩
theorem lw_p11 : lw_okq (⟨"ShareDiskModel", "fails", "(ZZ)Z"⟩, 24) := ⟨⟨by decide +kernel, by decide +kernel⟩, List.mem_of_getElem? (i := 448) (by decide +kernel), List.mem_of_getElem? (i := 541) (by decide +kernel), List.mem_of_getElem? (i := 542) (by decide +kernel)⟩
theorem lw_p12 : lw_okq (⟨"ShareDiskModel", "isThere", "(I)Z"⟩, 24) := ⟨⟨by decide +kernel, by decide +kernel⟩, List.mem_of_getElem? (i := 448) (by decide +kernel), List.mem_of_getElem? (i := 549) (by decide +kernel), List.mem_of_getElem? (i := 550) (by decide +kernel)⟩
theorem lw_p13 : lw_okq (⟨"ShareDiskModel", "waiting", "(I)I"⟩, 24) := ⟨⟨by decide +kernel, by decide +kernel⟩, List.mem_of_getElem? (i := 448) (by decide +kernel), List.mem_of_getElem? (i := 553) (by decide +kernel), List.mem_of_getElem? (i := 554) (by decide +kernel)⟩
theorem lw_p14 : lw_okq (⟨"ShareDiskModel", "end", "()V"⟩, 24) := ⟨⟨by decide +kernel, by decide +kernel⟩, List.mem_of_getElem? (i := 448) (by decide +kernel), List.mem_of_getElem? (i := 557) (by decide +kernel), List.mem_of_getElem? (i := 558) (by decide +kernel)⟩
theorem lw_p15 : lw_okq (⟨"ShareDiskModel", "begin", "(I)V"⟩, 24) := ⟨⟨by decide +kernel, by decide +kernel⟩, List.mem_of_getElem? (i := 448) (by decide +kernel), List.mem_of_getElem? (i := 569) (by decide +kernel), List.mem_of_getElem? (i := 570) (by decide +kernel)⟩
def lw_privs_1 : List (MethodName × Nat) := [(⟨"ShareDisk", "serve", "(II)V"⟩, 8), (⟨"ShareDisk", "moveHead", "(II)V"⟩, 8), (⟨"ShareDisk$Requests", "mustKeepOrder", "(II)Z"⟩, 12), (⟨"ShareDisk", "takeFromSlice", "(I)V"⟩, 8), (⟨"ShareDisk", "endSlice", "()V"⟩, 8), (⟨"ShareDisk", "beginSlice", "()V"⟩, 8), (⟨"ShareDisk$Requests", "turnOf", "(II)I"⟩, 12), (⟨"ShareDisk", "countOfDisk", "(I)J"⟩, 8), (⟨"java/lang/Throwable", "fillInStackTrace", "(I)Ljava/lang/Throwable;"⟩, 6), (⟨"ShareDisk", "requireThere", "(I)V"⟩, 8), (⟨"ShareDisk$Clients", "forgetLead", "(I)V"⟩, 7), (⟨"ShareDiskModel", "fails", "(ZZ)Z"⟩, 24), (⟨"ShareDiskModel", "isThere", "(I)Z"⟩, 24), (⟨"ShareDiskModel", "waiting", "(I)I"⟩, 24), (⟨"ShareDiskModel", "end", "()V"⟩, 24), (⟨"ShareDiskModel", "begin", "(I)V"⟩, 24)]
theorem lw_r1 : ∀ q ∈ lw_privs_1, lw_okq q := List.forall_mem_cons.mpr ⟨lw_p0, List.forall_mem_cons.mpr ⟨lw_p1, List.forall_mem_cons.mpr ⟨lw_p2, List.forall_mem_cons.mpr ⟨lw_p3, List.forall_mem_cons.mpr ⟨lw_p4, List.forall_mem_cons.mpr ⟨lw_p5, List.forall_mem_cons.mpr ⟨lw_p6, List.forall_mem_cons.mpr ⟨lw_p7, List.forall_mem_cons.mpr ⟨lw_p8, List.forall_mem_cons.mpr ⟨lw_p9, List.forall_mem_cons.mpr ⟨lw_p10, List.forall_mem_cons.mpr ⟨lw_p11, List.forall_mem_cons.mpr ⟨lw_p12, List.forall_mem_cons.mpr ⟨lw_p13, List.forall_mem_cons.mpr ⟨lw_p14, List.forall_mem_cons.mpr ⟨lw_p15, fun _ h => absurd h List.not_mem_nil⟩⟩⟩⟩⟩⟩⟩⟩⟩⟩⟩⟩⟩⟩⟩⟩
theorem lw_p16 : lw_okq (⟨"ShareDiskModel", "due", "()I"⟩, 24) := ⟨⟨by decide +kernel, by decide +kernel⟩, List.mem_of_getElem? (i := 448) (by decide +kernel), List.mem_of_getElem? (i := 577) (by decide +kernel), List.mem_of_getElem? (i := 578) (by decide +kernel)⟩
theorem lw_p17 : lw_okq (⟨"ShareDiskModel", "canGo", "(I)Z"⟩, 24) := ⟨⟨by decide +kernel, by decide +kernel⟩, List.mem_of_getElem? (i := 448) (by decide +kernel), List.mem_of_getElem? (i := 581) (by decide +kernel), List.mem_of_getElem? (i := 582) (by decide +kernel)⟩
theorem lw_p18 : lw_okq (⟨"ShareDiskModel", "isBlocked", "(I)Z"⟩, 24) := ⟨⟨by decide +kernel, by decide +kernel⟩, List.mem_of_getElem? (i := 448) (by decide +kernel), List.mem_of_getElem? (i := 585) (by decide +kernel), List.mem_of_getElem? (i := 586) (by decide +kernel)⟩
theorem lw_p19 : lw_okq (⟨"ShareDiskModel", "choose", "()V"⟩, 24) := ⟨⟨by decide +kernel, by decide +kernel⟩, List.mem_of_getElem? (i := 448) (by decide +kernel), List.mem_of_getElem? (i := 589) (by decide +kernel), List.mem_of_getElem? (i := 590) (by decide +kernel)⟩
theorem lw_p20 : lw_okq (⟨"ShareDiskModel", "next", "()I"⟩, 24) := ⟨⟨by decide +kernel, by decide +kernel⟩, List.mem_of_getElem? (i := 448) (by decide +kernel), List.mem_of_getElem? (i := 593) (by decide +kernel), List.mem_of_getElem? (i := 594) (by decide +kernel)⟩
theorem lw_p21 : lw_okq (⟨"ShareDiskModel", "ahead", "(I)I"⟩, 24) := ⟨⟨by decide +kernel, by decide +kernel⟩, List.mem_of_getElem? (i := 448) (by decide +kernel), List.mem_of_getElem? (i := 597) (by decide +kernel), List.mem_of_getElem? (i := 598) (by decide +kernel)⟩
theorem lw_p22 : lw_okq (⟨"ShareDiskModel", "serve", "(IZ)V"⟩, 24) := ⟨⟨by decide +kernel, by decide +kernel⟩, List.mem_of_getElem? (i := 448) (by decide +kernel), List.mem_of_getElem? (i := 602) (by decide +kernel), List.mem_of_getElem? (i := 603) (by decide +kernel)⟩
def lw_privs_2 : List (MethodName × Nat) := [(⟨"ShareDiskModel", "due", "()I"⟩, 24), (⟨"ShareDiskModel", "canGo", "(I)Z"⟩, 24), (⟨"ShareDiskModel", "isBlocked", "(I)Z"⟩, 24), (⟨"ShareDiskModel", "choose", "()V"⟩, 24), (⟨"ShareDiskModel", "next", "()I"⟩, 24), (⟨"ShareDiskModel", "ahead", "(I)I"⟩, 24), (⟨"ShareDiskModel", "serve", "(IZ)V"⟩, 24)]
theorem lw_r2 : ∀ q ∈ lw_privs_2, lw_okq q := List.forall_mem_cons.mpr ⟨lw_p16, List.forall_mem_cons.mpr ⟨lw_p17, List.forall_mem_cons.mpr ⟨lw_p18, List.forall_mem_cons.mpr ⟨lw_p19, List.forall_mem_cons.mpr ⟨lw_p20, List.forall_mem_cons.mpr ⟨lw_p21, List.forall_mem_cons.mpr ⟨lw_p22, fun _ h => absurd h List.not_mem_nil⟩⟩⟩⟩⟩⟩⟩
def lw_privs : List (MethodName × Nat) := lw_privs_1 ++ (lw_privs_2)
def lw_tbl : List Cond := k2_sels lw_privs ++ tables_1
theorem lw_privs_ok : ∀ q ∈ lw_privs, lw_okq q := by
  show ∀ q ∈ lw_privs_1 ++ (lw_privs_2), lw_okq q
  exact List.forall_mem_append.mpr ⟨lw_r1, lw_r2⟩
end
section
/-! ===== BEGIN words of one list among another's, by their places ===== -/
theorem goodIn_r {big : List Cond} (ws : List Cond) (ps : List Nat) (hp : ws = ps.filterMap (fun i => big[i]?)) (h : ws.all goodWord = true) : GoodIn big ws := by
  intro w hw
  have h1 := List.all_eq_true.mp h w hw
  rw [hp] at hw
  obtain ⟨i, -, hi⟩ := List.mem_filterMap.mp hw
  have hm : w ∈ big := by first | exact List.mem_of_getElem? hi | exact List.getElem?_mem hi
  exact ⟨hm, good_of_word h1⟩
theorem goodIn_app {big a b : List Cond} (ha : GoodIn big a) (hb : GoodIn big b) : GoodIn big (a ++ b) := fun w h => (List.mem_append.mp h).elim (ha w) (hb w)
theorem goodIn_ca {big a b : List Cond} {c : Cond} (ha : GoodIn big (c :: a)) (hb : GoodIn big b) : GoodIn big (c :: (a ++ b)) := fun w h => (List.mem_cons.mp h).elim (fun e => ha w (List.mem_cons.mpr (Or.inl e))) (fun h => (List.mem_append.mp h).elim (fun h => ha w (List.mem_cons.mpr (Or.inr h))) (hb w))
theorem goodIn_sub {big ws : List Cond} (hm : ∀ w ∈ ws, w ∈ big) (h : ws.all goodWord = true) : GoodIn big ws := fun w hw => ⟨hm w hw, good_of_word (List.all_eq_true.mp h w hw)⟩
/-! ===== END ===== -/


/-! ===== BEGIN exceptions that leave a method, and their catching by the caller (launches without stack traces) ===== -/
section VXA
/-! The laws vx_back, vx_callV, vx_callS, vx_callSW, vx_throw0, vx_throwS follow proofs of the library, with one case more: JvmDerived/Free/Laws.lean (Back.of_free), Shelf42/LK1.lean (callV, callS), Shelf/KitTraced.lean (throwNew0V, throwNewS). -/
/-- where a method has thrown q: the class by its name, the cell, what was written, the world -/
def vx_T (XC : String → State → State → Prop) (st : State) (q : Addr) (t : State) (mc ms : Nat) (free : Addr → Prop) : Prop :=
  ∃ (E : String) (ce : Cell) (L : List Loc), XC E st t ∧ t.heap[q]? = some ce ∧ ce.vm = .none ∧ st.vm.findClass E = some ce.cls ∧ st.WarmedH t.vm ∧ st.sameButNew ({ t with vm := st.vm } : State) L mc ms ∧ ∀ z ∈ L, free z.base
def vx_Q (Qc : Array Value → State → Outcome → State → Prop) (XC : String → State → State → Prop) (mc ms : Nat) (free : Addr → Prop) : Array Value → State → Outcome → State → Prop := fun a st o t =>
  (Qc a st o t ∧ ∃ L, FrameEnd st o t L mc ms ∧ ∀ q ∈ L, free q.base) ∨ ∃ q, o = .threw q ∧ vx_T XC st q t mc ms free
/-- a callee that returns or throws -/
def vx_Met (l : Launch) (y : MethodName) (ws : List Cond) (rm : Room) (Pc : Array Value → State → Prop) (Qc : Array Value → State → Outcome → State → Prop) (XC : String → State → State → Prop) (mc ms : Nat) (free : Addr → Prop) : Prop :=
  MetFree l y (headSpec ws rm) Pc (fun _ _ _ _ _ => True) (vx_Q Qc XC mc ms free)
def vx_Post (XC : String → State → State → Prop) (mc ms : Nat) (free : Addr → Prop) : Pt → Array Value → Addr → Pt → Prop := fun A a q B =>
  ∃ (g : JFrame) (mk : MethodId) (t : State) (L : List Loc) (E : String) (ce : Cell), B.U.heap = t.heap ∧ B.U.vm = t.vm ∧ XC E (A.U.calling g mk a) t ∧ t.heap[q]? = some ce ∧ ce.vm = .none ∧ A.U.vm.findClass E = some ce.cls ∧ B.locs = A.locs ++ L ∧ (∀ z ∈ L, free z.base) ∧ B.cells = A.cells + mc ∧ B.slots = A.slots + ms
def vx_Back (l : Launch) (R : Room) (p : Program) (e : Env) (below : List Frame) (s : State) (sargs : Array Value) (y : MethodName) (len W9 : Nat)
    (Pre : Pt → Array Value → Prop) (Post : Pt → Array Value → Option Value → Pt → Prop) (PostX : Pt → Array Value → Addr → Pt → Prop) : Prop :=
  ∀ (m : MethodId) (meth : Method) (c : Code) (A : Pt) (g : JFrame) (ig : Instr) (mk : MethodId) (a : Array Value),
    Stand p l e R s m sargs below meth c A.U A.locs A.cells A.slots → g.method = m → g.locals.size = c.maxLocals → decode c.code g.pc = .ok (ig, len) →
    2 * g.monitorRoom + (g.stack.map fun v => v.category).sum ≤ W9 → A.U.methodNamed? y = some mk → Pre A a →
    (∃ (v : Option Value) (B : Pt), Stand p l e R s m sargs below meth c B.U B.locs B.cells B.slots ∧ Post A a v B ∧
      Steps p.tables e below (doInvoke e (A.U.setTop g) [] mk a).1 (B.U.setTop { g with pc := g.pc + len, stack := v.toList ++ g.stack })) ∨
    (∃ (q : Addr) (B : Pt), Stand p l e R s m sargs below meth c B.U B.locs B.cells B.slots ∧ PostX A a q B ∧
      Steps p.tables e below (doInvoke e (A.U.setTop g) [] mk a).1 ((B.U.setTop g).pushFrame (.throwing q)))
section Payer
variable {l : Launch} {R : Room} {p : Program} {e : Env} {below : List Frame} {s : State} {sargs : Array Value} {y : MethodName} {len W9 : Nat}
theorem vx_back {ws : List Cond} {rm : Room} {Pc : Array Value → State → Prop} {Qc : Array Value → State → Outcome → State → Prop} {XC : String → State → State → Prop} {mc ms : Nat} {free : Addr → Prop} {bytes : ByteArray} {maxL : Nat} {ret : Option FieldType}
    (hM : vx_Met l y ws rm Pc Qc XC mc ms free) (hblind : FrameBlind Pc) (hrc : rm.cells = mc) (hrs : rm.slots = ms)
    (hframes : rm.frames + 1 ≤ R.frames) (hlocals : W9 + (maxL + 11) + rm.locals ≤ R.locals)
    (hws : ∀ w ∈ ws, ∀ a' U, s.WarmedH U.vm → w.before a' U = true) (hcode : Cond.code y bytes maxL ret ∈ ws) (hinit : ∀ a' U, s.WarmedH U.vm → (Cond.initialized y.cls).before a' U = true) :
    vx_Back l R p e below s sargs y len W9 (PreOf R mc ms Pc) (PostOf Qc mc ms free) (vx_Post XC mc ms free) := by
  intro m meth c A g ig mk a X hg hsize hdg hW hn hp
  have h1 : (headSpec ws rm).pre.before a A.U = true := atoms_intro fun w hw => hws w hw _ _ X.warmed
  have h2 : (Cond.code y bytes maxL ret).before a A.U = true := hws _ hcode _ _ X.warmed
  have h3 : (Cond.initialized y.cls).before a A.U = true := hinit _ _ X.warmed
  have h4 : A.cells + (headSpec ws rm).room.cells ≤ R.cells := by rw [show (headSpec ws rm).room.cells = mc from hrc]; exact hp.1
  have h5 : A.slots + (headSpec ws rm).room.slots ≤ R.slots := by rw [show (headSpec ws rm).room.slots = ms from hrs]; exact hp.2.1
  have hPc : Pc a (A.U.calling g mk a) := hblind _ _ _ _ hp.2.2
  obtain ⟨U, Ls, c0, s0⟩ := A
  dsimp only [Pt.U, Pt.locs, Pt.cells, Pt.slots] at h1 h2 h3 h4 h5 X hn hPc ⊢
  obtain ⟨methY, cY, hmY, hcY, -, hlY, -, -, -, -⟩ := Cond.code_spec hn h2
  obtain ⟨kY, hkY, -⟩ := className_of_methodNamed hn
  have hinitY : kY.init = .initialized := Cond.initialized_spec (findClass_of_methodNamed hn) hkY h3
  have h : At U g.method c below := by rw [hg]; exact X.here
  have hlocals9 : W9 + (maxL + 11) + (headSpec ws rm).room.locals ≤ R.locals := hlocals
  have happ : (headSpec ws rm).appliesLoose y e.platform (U.calling g mk a) = true :=
    Spec.appliesLoose_calling (g := g) h hdg hn hkY hinitY
      (X.room_calling (g := g) (R' := (headSpec ws rm).room) hsize hmY hcY hframes (by rw [hlY]; omega) h4 h5) h1
  obtain ⟨mid, hmid⟩ := h.above
  have hfr : (U.setTop g).frames = (.java g :: mid) ++ below := by rw [State.frames_setTop' g h.top, hmid]; rfl
  obtain ⟨o, s₂, hsteps, -, hend, hq⟩ := Steps.callFree hM p X.admits X.cas X.clock (acts := []) hfr happ hPc trivial
  have hq' : vx_Q Qc XC mc ms free a (U.calling g mk a) o s₂ := hq
  rw [State.frames_setTop' g h.top] at hend
  obtain ⟨g₀, hg0⟩ := Option.isSome_iff_exists.mp h.top
  obtain ⟨r, hr⟩ := State.topJava?_eq_some.mp hg0
  have hr' : (({ U with heap := s₂.heap, slotsUsed := s₂.slotsUsed } : State).setVm s₂.vm).frames = .java g₀ :: r := hr
  rcases hq' with ⟨hqc, L, hfe, hL⟩ | ⟨q, rfl, E, ce, L, hx, hce, hcv, hcl, hW₂, hsm, hL⟩
  · obtain ⟨⟨v, rfl⟩, hW₂, e2, q2, q3, q4, q5, q6⟩ := id hfe
    have e3 : s₂ = ({ (U.calling g mk a).setFrames s₂.frames with heap := s₂.heap, slotsUsed := s₂.slotsUsed } : State).setVm s₂.vm := by
      have : s₂ = ({ s₂ with vm := (U.calling g mk a).vm } : State).setVm s₂.vm := rfl
      rw [e2] at this
      exact this
    obtain ⟨c₂, i₂, len₂, hc₂, hd₂, hf₂⟩ := hend
    have hW' : U.WarmedH s₂.vm := hW₂
    have hcc : c₂ = c := by
      have h1 : s₂.code? g.method = U.code? g.method := by
        rw [State.code?_eq, State.code?_eq, hW'.alike.method?]
      exact Option.some.inj (hc₂.symm.trans (h1.trans h.code))
    subst hcc
    have hlen : len₂ = len := by rw [hdg] at hd₂; cases hd₂; rfl
    subst hlen
    have hs₂ : s₂ = (({ U with heap := s₂.heap, slotsUsed := s₂.slotsUsed } : State).setVm s₂.vm).setTop { g with pc := g.pc + len₂, stack := v.toList ++ g.stack } := by
      refine e3.trans ?_
      rw [hf₂, State.calling_eq h.top, State.setFrames_setFrames, State.setTop_of_frames _ hr', hr]
      rfl
    have hsame : U.sameButNew ({ U with heap := s₂.heap, slotsUsed := s₂.slotsUsed } : State) L mc ms := by
      refine ⟨?_, q2, q3, q4, q5, q6⟩
      obtain ⟨t, ht, -⟩ := State.frames_cons hr
      show ({ U with heap := s₂.heap, slotsUsed := s₂.slotsUsed } : State) = { U.setFrames U.frames with heap := s₂.heap, slotsUsed := s₂.slotsUsed }
      rw [State.setFrames_self ht]
    subst hg
    refine Or.inl ⟨v, ⟨(({ U with heap := s₂.heap, slotsUsed := s₂.slotsUsed } : State).setVm s₂.vm), Ls ++ L, c0 + mc, s0 + ms⟩,
      ⟨X.admits, X.cas, X.clock, X.frames, X.room, X.hears, X.method, X.code, (X.here.setHeapUsed s₂.heap s₂.slotsUsed).setVm hW'.alike, X.tail, State.WarmedH.trans X.warmed hW', X.limits, X.bytes, X.same.trans (hsame.setVm s.vm)⟩,
      ⟨g, mk, s₂, L, rfl, rfl, hqc, rfl, hL, rfl, rfl⟩, ?_⟩
    show Steps p.tables e below _ ((({ U with heap := s₂.heap, slotsUsed := s₂.slotsUsed } : State).setVm s₂.vm).setTop { g with pc := g.pc + len₂, stack := v.toList ++ g.stack })
    rw [← hs₂]
    exact hsteps
  · obtain ⟨e2, q2, q3, q4, q5, q6⟩ := id hsm
    have e3 : s₂ = ({ (U.calling g mk a).setFrames s₂.frames with heap := s₂.heap, slotsUsed := s₂.slotsUsed } : State).setVm s₂.vm := by
      have : s₂ = ({ s₂ with vm := (U.calling g mk a).vm } : State).setVm s₂.vm := rfl
      rw [e2] at this
      exact this
    have hf₂ : s₂.frames = .throwing q :: .java g :: U.frames.tail := hend
    have hW' : U.WarmedH s₂.vm := hW₂
    have hs₂ : s₂ = ((({ U with heap := s₂.heap, slotsUsed := s₂.slotsUsed } : State).setVm s₂.vm).setTop g).pushFrame (.throwing q) := by
      refine e3.trans ?_
      rw [hf₂, State.calling_eq h.top, State.setFrames_setFrames, State.pushFrame, State.frames_setTop _ hr', State.setTop_of_frames _ hr', State.setFrames_setFrames, hr]
      rfl
    have hsame : U.sameButNew ({ U with heap := s₂.heap, slotsUsed := s₂.slotsUsed } : State) L mc ms := by
      refine ⟨?_, q2, q3, q4, q5, q6⟩
      obtain ⟨t, ht, -⟩ := State.frames_cons hr
      show ({ U with heap := s₂.heap, slotsUsed := s₂.slotsUsed } : State) = { U.setFrames U.frames with heap := s₂.heap, slotsUsed := s₂.slotsUsed }
      rw [State.setFrames_self ht]
    subst hg
    refine Or.inr ⟨q, ⟨(({ U with heap := s₂.heap, slotsUsed := s₂.slotsUsed } : State).setVm s₂.vm), Ls ++ L, c0 + mc, s0 + ms⟩,
      ⟨X.admits, X.cas, X.clock, X.frames, X.room, X.hears, X.method, X.code, (X.here.setHeapUsed s₂.heap s₂.slotsUsed).setVm hW'.alike, X.tail, State.WarmedH.trans X.warmed hW', X.limits, X.bytes, X.same.trans (hsame.setVm s.vm)⟩,
      ⟨g, mk, s₂, L, E, ce, rfl, rfl, hx, hce, hcv, hcl, rfl, hL, rfl, rfl⟩, ?_⟩
    show Steps p.tables e below _ (((({ U with heap := s₂.heap, slotsUsed := s₂.slotsUsed } : State).setVm s₂.vm).setTop g).pushFrame (.throwing q))
    rw [← hs₂]
    exact hsteps
end Payer
section Calls
variable {p : Program} {l : Launch} {e : Env} {R : Room} {s : State} {m : MethodId} {args : Array Value} {below : List Frame} {meth : Method} {c : Code} {T : State} {locs : List Loc} {cells slots : Nat}
theorem vx_callV (X : Stand p l e R s m args below meth c T locs cells slots) (hexec : p.tables.exec = Jvm.exec) {own C : String} {index : Nat} {y : MethodName} {bytes : ByteArray} {maxL : Nat} {ret : Option FieldType}
    (hown : s.vm.findClass own = some m.cls) (hlink : (Cond.methodLink own index y).before args s = true) (hinst : (Cond.instanceMethod y).before args s = true) (hsel : (Cond.selects C y y).before args s = true)
    (hcode : (Cond.code y bytes maxL ret).before args s = true) (hy : y.cls ≠ "java/lang/invoke/MethodHandle" ∧ y.cls ≠ "java/lang/invoke/VarHandle")
    {W9 : Nat} {Pre : Pt → Array Value → Prop} {Post : Pt → Array Value → Option Value → Pt → Prop} {PostX : Pt → Array Value → Addr → Pt → Prop} (hK : vx_Back l R p e below s args y 3 W9 Pre Post PostX)
    {b : Addr} {cellB : Cell} (hcell : T.heap[b]? = some cellB) (hobj : cellB.vm.isStatics = false) (hcls : s.vm.findClass C = some cellB.cls)
    {g : JFrame} (hg : g.method = m) (hsize : g.locals.size = c.maxLocals) {argsL rest : List Value} (hlen : ∀ sig, parseMethodDescriptor y.desc = some sig → argsL.length = sig.parameters.length)
    (hstack : g.stack = argsL.reverse ++ .ref b :: rest) (hW : 2 * g.monitorRoom + (rest.map fun v => v.category).sum ≤ W9) (hdg : decode c.code g.pc = .ok (.invokevirtual index, 3))
    (hpre : ∀ vm₁, s.WarmedH vm₁ → Pre ⟨T.setVm vm₁, locs, cells, slots⟩ (Value.ref b :: argsL).toArray) :
    (∃ (v : Option Value) (vm₁ : Vm) (B : Pt), s.WarmedH vm₁ ∧ Stand p l e R s m args below meth c B.U B.locs B.cells B.slots ∧ Post ⟨T.setVm vm₁, locs, cells, slots⟩ (Value.ref b :: argsL).toArray v B ∧
      ∀ target, Steps p.tables e below (B.U.setTop { g with pc := g.pc + 3, stack := v.toList ++ rest }) target → Steps p.tables e below (T.setTop g) target) ∨
    (∃ (q : Addr) (vm₁ : Vm) (B : Pt), s.WarmedH vm₁ ∧ Stand p l e R s m args below meth c B.U B.locs B.cells B.slots ∧ PostX ⟨T.setVm vm₁, locs, cells, slots⟩ (Value.ref b :: argsL).toArray q B ∧
      Steps p.tables e below (T.setTop g) ((B.U.setTop { g with stack := rest }).pushFrame (.throwing q))) := by
  obtain ⟨mk, methM, hnamed, hmethM, hstM, habM⟩ := Cond.instanceMethod_spec hinst
  obtain ⟨methM', cM, hmethM', -, -, -, -, -, -, hsigM⟩ := Cond.code_spec hnamed hcode
  cases hmethM.symm.trans hmethM'
  obtain ⟨c2, r2, m2, q1, q2, q3, q4, kP, hkP, hkPi⟩ := Cond.selects_spec hsel
  cases hcls.symm.trans q1
  cases (State.methodFound?_of_named hnamed hy).symm.trans q2
  cases hnamed.symm.trans q3
  have hselP : selectMethod e.platform s.vm cellB.cls mk = .method mk := by rw [Launch.admits_selectMethod X.admits]; exact q4
  obtain ⟨vm₁, X₁, hstep₁⟩ := X.invokevirtual hexec hown hlink hnamed hmethM hstM hkP hkPi hy (a := b) (cell := cellB) hcell
    (fun z h => by rw [h] at hobj; cases hobj) hselP hmethM habM hkP hkPi (g := g) hg (argsL := argsL) (rest := rest) (hlen _ hsigM) hstack hdg
  rcases hK m meth c ⟨T.setVm vm₁, locs, cells, slots⟩ { g with stack := rest } (.invokevirtual index) mk (Value.ref b :: argsL).toArray X₁ hg hsize hdg hW (X₁.named hnamed) (hpre vm₁ X₁.warmed) with ⟨v, B, X', hpost, hsteps⟩ | ⟨q, B, X', hpost, hsteps⟩
  · exact Or.inl ⟨v, vm₁, B, X₁.warmed, X', hpost, fun target h => hstep₁ _ fun acts => by rw [doInvoke_state]; exact hsteps.trans h⟩
  · exact Or.inr ⟨q, vm₁, B, X₁.warmed, X', hpost, hstep₁ _ fun acts => by rw [doInvoke_state]; exact hsteps⟩
theorem vx_callS (X : Stand p l e R s m args below meth c T locs cells slots) (hexec : p.tables.exec = Jvm.exec) {own : String} {index : Nat} {y : MethodName} {bytes : ByteArray} {maxL : Nat} {ret : Option FieldType}
    (hown : s.vm.findClass own = some m.cls) (hlink : (Cond.methodLink own index y).before args s = true) (hstat : (Cond.static y).before args s = true) (hinit : (Cond.initialized y.cls).before args s = true)
    (hcode : (Cond.code y bytes maxL ret).before args s = true) (hy : y.cls ≠ "java/lang/invoke/MethodHandle" ∧ y.cls ≠ "java/lang/invoke/VarHandle")
    {W9 : Nat} {Pre : Pt → Array Value → Prop} {Post : Pt → Array Value → Option Value → Pt → Prop} {PostX : Pt → Array Value → Addr → Pt → Prop} (hK : vx_Back l R p e below s args y 3 W9 Pre Post PostX)
    {g : JFrame} (hg : g.method = m) (hsize : g.locals.size = c.maxLocals) {argsL rest : List Value} (hlen : ∀ sig, parseMethodDescriptor y.desc = some sig → argsL.length = sig.parameters.length)
    (hstack : g.stack = argsL.reverse ++ rest) (hW : 2 * g.monitorRoom + (rest.map fun v => v.category).sum ≤ W9) (hdg : decode c.code g.pc = .ok (.invokestatic index, 3))
    (hpre : ∀ vm₁, s.WarmedH vm₁ → Pre ⟨T.setVm vm₁, locs, cells, slots⟩ argsL.toArray) :
    (∃ (v : Option Value) (vm₁ : Vm) (B : Pt), s.WarmedH vm₁ ∧ Stand p l e R s m args below meth c B.U B.locs B.cells B.slots ∧ Post ⟨T.setVm vm₁, locs, cells, slots⟩ argsL.toArray v B ∧
      ∀ target, Steps p.tables e below (B.U.setTop { g with pc := g.pc + 3, stack := v.toList ++ rest }) target → Steps p.tables e below (T.setTop g) target) ∨
    (∃ (q : Addr) (vm₁ : Vm) (B : Pt), s.WarmedH vm₁ ∧ Stand p l e R s m args below meth c B.U B.locs B.cells B.slots ∧ PostX ⟨T.setVm vm₁, locs, cells, slots⟩ argsL.toArray q B ∧
      Steps p.tables e below (T.setTop g) ((B.U.setTop { g with stack := rest }).pushFrame (.throwing q))) := by
  obtain ⟨mk, hnamed⟩ := Cond.code_named hcode
  obtain ⟨methM, cM, hmethM, -, -, -, -, -, -, hsigM⟩ := Cond.code_spec hnamed hcode
  have hstatic : methM.isStatic = true := Cond.static_spec hnamed hmethM hstat
  obtain ⟨kP, hkP, -⟩ := className_of_methodNamed hnamed
  have hinitP : kP.init = .initialized := Cond.initialized_spec (findClass_of_methodNamed hnamed) hkP hinit
  obtain ⟨vm₁, X₁, hstep₁⟩ := X.invokestatic hexec hown hlink hnamed hmethM hstatic hkP hinitP hy (g := g) hg (argsL := argsL) (rest := rest) (hlen _ hsigM) hstack hdg
  rcases hK m meth c ⟨T.setVm vm₁, locs, cells, slots⟩ { g with stack := rest } (.invokestatic index) mk argsL.toArray X₁ hg hsize hdg hW (X₁.named hnamed) (hpre vm₁ X₁.warmed) with ⟨v, B, X', hpost, hsteps⟩ | ⟨q, B, X', hpost, hsteps⟩
  · exact Or.inl ⟨v, vm₁, B, X₁.warmed, X', hpost, fun target h => hstep₁ _ fun acts => by rw [doInvoke_state]; exact hsteps.trans h⟩
  · exact Or.inr ⟨q, vm₁, B, X₁.warmed, X', hpost, hstep₁ _ fun acts => by rw [doInvoke_state]; exact hsteps⟩
end Calls
theorem vx_cls {s : State} {T : State} {vm₁ : Vm} {E : String} {k : ClassId} (hW : s.WarmedH vm₁) (h : (T.setVm vm₁).vm.findClass E = some k) : s.vm.findClass E = some k := by
  have h1 : vm₁.findClass E = some k := h
  rw [hW.alike.findClass] at h1
  exact h1
/-- the method's frame g, with q thrown over it -/
def vx_W (p : Program) (l : Launch) (e : Env) (R : Room) (s : State) (m : MethodId) (args : Array Value) (below : List Frame) (meth : Method) (c : Code) (H : Heap) (locs : List Loc) (cells slots : Nat) (Q : State → Prop) (g : JFrame) (q : Addr) : Prop :=
  ∀ T : State, T.heap = H → Stand p l e R s m args below meth c T locs cells slots → ∃ t, Steps p.tables e below ((T.setTop g).pushFrame (.throwing q)) t ∧ Q t
def vx_Run (p : Program) (l : Launch) (e : Env) (R : Room) (s : State) (m : MethodId) (args : Array Value) (below : List Frame) (meth : Method) (c : Code) (H : Heap) (locs : List Loc) (cells slots mc ms : Nat) (g : JFrame) (rest : List Value) (Qa : State → Outcome → State → Prop) (XC : String → State → State → Prop) (free : Addr → Prop) : Prop :=
  ∀ T : State, T.heap = H → Stand p l e R s m args below meth c T locs cells slots →
    (∃ (v : Option Value) (st₀ t T' : State) (L : List Loc), st₀.heap = H ∧ Stand p l e R s m args below meth c T' (locs ++ L) (cells + mc) (slots + ms) ∧ (∀ q ∈ L, free q.base) ∧ T'.heap = t.heap ∧ T'.vm = t.vm ∧ Qa st₀ (.returned v) t ∧
      Goes p e below T g T' { g with pc := g.pc + 3, stack := v.toList ++ rest }) ∨
    (∃ (q : Addr) (st₀ t T' : State) (L : List Loc) (E : String) (ce : Cell), st₀.heap = H ∧ Stand p l e R s m args below meth c T' (locs ++ L) (cells + mc) (slots + ms) ∧ (∀ z ∈ L, free z.base) ∧ T'.heap = t.heap ∧ T'.vm = t.vm ∧ XC E st₀ t ∧ t.heap[q]? = some ce ∧ ce.vm = .none ∧ s.vm.findClass E = some ce.cls ∧
      Steps p.tables e below (T.setTop g) ((T'.setTop { g with stack := rest }).pushFrame (.throwing q)))
def vx_X {S : Type} (px : S → Prop) (B : String → S → State → Prop) (A : Nat → Prop) : String → State → State → Prop := fun E st t => ∃ u : S, px u ∧ B E u t ∧ va_F A st t
section Runs
variable {p : Program} {l : Launch} {e : Env} {R : Room} {s : State} {m : MethodId} {args : Array Value} {below : List Frame} {meth : Method} {c : Code} {H : Heap} {locs : List Loc} {cells slots : Nat}
variable {y : MethodName} {bytes cc : ByteArray} {maxL nL mc ms n index : Nat} {ret : Option FieldType} {ws : List Cond} {rm : Room} {Pc : Array Value → State → Prop} {Qc : Array Value → State → Outcome → State → Prop} {XC : String → State → State → Prop} {free : Addr → Prop} {Ts : List Cond} {own C : String} {b : Addr} {As rest : List Value} {g : JFrame}
theorem vx_callBack (cb : CallB R s args own index y bytes maxL ret ws rm mc ms n) (hM : vx_Met l y ws rm Pc Qc XC mc ms free) (hbl : FrameBlind Pc) : vx_Back l R p e below s args y 3 8 (PreOf R mc ms Pc) (PostOf Qc mc ms free) (vx_Post XC mc ms free) := by
  obtain ⟨hrc, hrs, hfr, hlo, hws, hcw, -, hini, -⟩ := cb
  exact vx_back (bytes := bytes) (maxL := maxL) (ret := ret) hM hbl hrc hrs hfr hlo hws hcw (fun a' U hW => word_at hW (Or.inl (by first | rfl | simp [Cond.onTables, Cond.keeps, Cond.steady])) hini)
theorem vx_runV (S : CallFix p m c cc nL s args Ts own) (hM : vx_Met l y ws rm Pc Qc XC mc ms free) (cw : CallW R s args own C index y bytes maxL ret ws rm mc ms n) (hp : PreV s H C b Pc As)
    (hg : g.method = m) (hn : As.length = n) (hsize : g.locals.size = nL) (hstack : g.stack = As.reverse ++ .ref b :: rest) (hW : 2 * g.monitorRoom + (rest.map fun v => v.category).sum ≤ 8) (hdg : decode cc g.pc = .ok (.invokevirtual index, 3)) (hf : cells + mc ≤ R.cells ∧ slots + ms ≤ R.slots) :
    vx_Run p l e R s m args below meth c H locs cells slots mc ms g rest (Qc (Value.ref b :: As).toArray) XC free := by
  have hK : vx_Back l R p e below s args y 3 8 (PreOf R mc ms Pc) (PostOf Qc mc ms free) (vx_Post XC mc ms free) := vx_callBack cw.1 hM hp.1
  obtain ⟨⟨-, -, -, -, -, -, hcode, -, hy, hlen, hl⟩, hin, hse⟩ := cw
  obtain ⟨hx, hb, hml, ho, -⟩ := S
  obtain ⟨-, ⟨cellB, hcB, hoB, hclB⟩, hPc⟩ := hp
  intro T hT X
  rcases vx_callV X hx (C := C) (bytes := bytes) (maxL := maxL) (ret := ret) ho hl hin hse hcode hy hK (by rw [hT]; exact hcB) hoB hclB hg (hsize.trans hml.symm) (argsL := As) (rest := rest) (fun sig h => hn.trans (hlen sig h)) hstack hW (by rw [hb]; exact hdg)
    (fun vm₁ hW₁ => ⟨hf.1, hf.2, hPc (T.setVm vm₁) hT hW₁⟩) with ⟨v, vm₁, ⟨U', l2, c2, s2⟩, hW₁, X', ⟨g', mk, t, L, e1, e2, hq, h1, hL, h2, h3⟩, st⟩ | ⟨q, vm₁, ⟨U', l2, c2, s2⟩, hW₁, X', ⟨g', mk, t, L, E, ce, e1, e2, hq, hce, hcv, hcl, h1, hL, h2, h3⟩, st⟩
  · dsimp only [Pt.U, Pt.locs, Pt.cells, Pt.slots] at X' e1 e2 h1 h2 h3 st
    subst h1; subst h2; subst h3
    exact Or.inl ⟨v, (T.setVm vm₁).calling g' mk (Value.ref b :: As).toArray, t, U', L, hT, X', hL, e1, e2, hq, st⟩
  · dsimp only [Pt.U, Pt.locs, Pt.cells, Pt.slots] at X' e1 e2 h1 h2 h3 st hcl
    subst h1; subst h2; subst h3
    exact Or.inr ⟨q, (T.setVm vm₁).calling g' mk (Value.ref b :: As).toArray, t, U', L, E, ce, hT, X', hL, e1, e2, hq, hce, hcv, vx_cls hW₁ hcl, st⟩
theorem vx_runS (S : CallFix p m c cc nL s args Ts own) (hM : vx_Met l y ws rm Pc Qc XC mc ms free) (cw : CallB R s args own index y bytes maxL ret ws rm mc ms n ∧ (Cond.static y).before args s = true) (hp : PreS s H Pc As)
    (hg : g.method = m) (hn : As.length = n) (hsize : g.locals.size = nL) (hstack : g.stack = As.reverse ++ rest) (hW : 2 * g.monitorRoom + (rest.map fun v => v.category).sum ≤ 8) (hdg : decode cc g.pc = .ok (.invokestatic index, 3)) (hf : cells + mc ≤ R.cells ∧ slots + ms ≤ R.slots) :
    vx_Run p l e R s m args below meth c H locs cells slots mc ms g rest (Qc As.toArray) XC free := by
  have hK : vx_Back l R p e below s args y 3 8 (PreOf R mc ms Pc) (PostOf Qc mc ms free) (vx_Post XC mc ms free) := vx_callBack cw.1 hM hp.1
  obtain ⟨⟨-, -, -, -, -, -, hcode, hini, hy, hlen, hl⟩, hstt⟩ := cw
  obtain ⟨hx, hb, hml, ho, -⟩ := S
  intro T hT X
  rcases vx_callS X hx (bytes := bytes) (maxL := maxL) (ret := ret) ho hl hstt hini hcode hy hK hg (hsize.trans hml.symm) (argsL := As) (rest := rest) (fun sig h => hn.trans (hlen sig h)) hstack hW (by rw [hb]; exact hdg)
    (fun vm₁ hW₁ => ⟨hf.1, hf.2, hp.2 (T.setVm vm₁) hT hW₁⟩) with ⟨v, vm₁, ⟨U', l2, c2, s2⟩, hW₁, X', ⟨g', mk, t, L, e1, e2, hq, h1, hL, h2, h3⟩, st⟩ | ⟨q, vm₁, ⟨U', l2, c2, s2⟩, hW₁, X', ⟨g', mk, t, L, E, ce, e1, e2, hq, hce, hcv, hcl, h1, hL, h2, h3⟩, st⟩
  · dsimp only [Pt.U, Pt.locs, Pt.cells, Pt.slots] at X' e1 e2 h1 h2 h3 st
    subst h1; subst h2; subst h3
    exact Or.inl ⟨v, (T.setVm vm₁).calling g' mk As.toArray, t, U', L, hT, X', hL, e1, e2, hq, st⟩
  · dsimp only [Pt.U, Pt.locs, Pt.cells, Pt.slots] at X' e1 e2 h1 h2 h3 st hcl
    subst h1; subst h2; subst h3
    exact Or.inr ⟨q, (T.setVm vm₁).calling g' mk As.toArray, t, U', L, E, ce, hT, X', hL, e1, e2, hq, hce, hcv, vx_cls hW₁ hcl, st⟩
end Runs
section Rows
variable {p : Program} {l : Launch} {e : Env} {R : Room} {s : State} {m : MethodId} {args : Array Value} {below : List Frame} {meth : Method} {c : Code} {H : Heap} {locs : List Loc} {cells slots : Nat} {Q : State → Prop}
variable {mc ms : Nat} {free : Addr → Prop} {A0 A1 : Nat → Prop} {H0 : Heap} {a : Array Value} {pc : Nat} {ls : Array Slot} {st0 rest : List Value}
theorem vx_keep {st₀ t T' : State} {L : List Loc} (h0 : st₀.heap = H) (e1 : T'.heap = t.heap) (hS : va_S A0 H0 H locs) (hA : ∀ q, q < H.size → A1 q → A0 q) (hf : ∀ q, free q → A0 q) (hL : ∀ q ∈ L, free q.base) (hF : va_F A1 st₀ t) :
    H.size ≤ T'.heap.size ∧ (∀ q : Nat, q < H.size → ¬ A1 q → T'.heap[q]? = H[q]?) ∧ va_S A0 H0 T'.heap (locs ++ L) := by
  obtain ⟨hz, hk⟩ := hF
  rw [h0] at hz hk
  exact ⟨by rw [e1]; exact hz, fun q h1 h2 => by rw [e1]; exact hk q h1 h2,
    ⟨Nat.le_trans hS.1 (by rw [e1]; exact hz), fun q h1 h2 => by rw [e1, hk q (Nat.lt_of_lt_of_le h1 hS.1) (fun z => h2 (hA q (Nat.lt_of_lt_of_le h1 hS.1) z))]; exact hS.2.1 q h1 h2, fun q hq => by
      rcases List.mem_append.mp hq with h | h
      · exact hS.2.2 q h
      · exact hf _ (hL q h)⟩⟩
theorem vx_calli {S SX : Type} {post : Int32 → S → Prop} {px : SX → Prop} {B : S → State → Prop} {BX : String → SX → State → Prop} {AX : Nat → Prop} (hr : vx_Run p l e R s m args below meth c H locs cells slots mc ms (F0 m pc ls st0) rest (va_Qi post B A1 a) (vx_X px BX AX) free) (hS : va_S A0 H0 H locs) (hA : ∀ q, q < H.size → A1 q → A0 q) (hf : ∀ q, free q → A0 q) (hAX : ∀ q, q < H.size → AX q → A0 q)
    (kx : ∀ (E : String) (ce : Cell) (q9 : Addr) (u : SX) (t : State) (H1 : Heap) (locs1 : List Loc), t.heap = H1 → s.vm.Alike t.vm → px u → BX E u t → H.size ≤ H1.size → (∀ q : Nat, q < H.size → ¬ AX q → H1[q]? = H[q]?) → va_S A0 H0 H1 locs1 → H1[q9]? = some ce → ce.vm = .none → s.vm.findClass E = some ce.cls → vx_W p l e R s m args below meth c H1 locs1 (cells + mc) (slots + ms) Q (F0 m pc ls rest) q9)
    (kk : ∀ (r : Int32) (u : S) (t : State) (H1 : Heap) (locs1 : List Loc), t.heap = H1 → s.vm.Alike t.vm → post r u → B u t → H.size ≤ H1.size → (∀ q : Nat, q < H.size → ¬ A1 q → H1[q]? = H[q]?) → va_S A0 H0 H1 locs1 → W p l e R s m args below meth c H1 locs1 (cells + mc) (slots + ms) Q (F0 m (pc + 3) ls (.int r :: rest))) : W p l e R s m args below meth c H locs cells slots Q (F0 m pc ls st0) := by
  intro T hT X
  rcases hr T hT X with ⟨v, st₀, t, T', L, h0, X', hL, e1, e2, ⟨⟨r, u, hv, hp, hb⟩, hF⟩, st⟩ | ⟨q, st₀, t, T', L, E, ce, h0, X', hL, e1, e2, ⟨u, hp, hb, hF⟩, hce, hcv, hcl, st⟩
  · cases hv
    obtain ⟨k1, k2, k3⟩ := vx_keep h0 e1 hS hA hf hL hF
    obtain ⟨t2, a1, b1⟩ := kk r u t T'.heap (locs ++ L) e1.symm (by rw [← e2]; exact X'.warmed.alike) hp hb k1 k2 k3 T' rfl X'
    exact ⟨t2, st t2 a1, b1⟩
  · obtain ⟨k1, k2, k3⟩ := vx_keep h0 e1 hS hAX hf hL hF
    obtain ⟨t2, a1, b1⟩ := kx E ce q u t T'.heap (locs ++ L) e1.symm (by rw [← e2]; exact X'.warmed.alike) hp hb k1 k2 k3 (by rw [e1]; exact hce) hcv hcl T' rfl X'
    exact ⟨t2, st.trans a1, b1⟩
theorem vx_calll {S SX : Type} {post : Int64 → S → Prop} {px : SX → Prop} {B : S → State → Prop} {BX : String → SX → State → Prop} {AX : Nat → Prop} (hr : vx_Run p l e R s m args below meth c H locs cells slots mc ms (F0 m pc ls st0) rest (va_Ql post B A1 a) (vx_X px BX AX) free) (hS : va_S A0 H0 H locs) (hA : ∀ q, q < H.size → A1 q → A0 q) (hf : ∀ q, free q → A0 q) (hAX : ∀ q, q < H.size → AX q → A0 q)
    (kx : ∀ (E : String) (ce : Cell) (q9 : Addr) (u : SX) (t : State) (H1 : Heap) (locs1 : List Loc), t.heap = H1 → s.vm.Alike t.vm → px u → BX E u t → H.size ≤ H1.size → (∀ q : Nat, q < H.size → ¬ AX q → H1[q]? = H[q]?) → va_S A0 H0 H1 locs1 → H1[q9]? = some ce → ce.vm = .none → s.vm.findClass E = some ce.cls → vx_W p l e R s m args below meth c H1 locs1 (cells + mc) (slots + ms) Q (F0 m pc ls rest) q9)
    (kk : ∀ (r : Int64) (u : S) (t : State) (H1 : Heap) (locs1 : List Loc), t.heap = H1 → s.vm.Alike t.vm → post r u → B u t → H.size ≤ H1.size → (∀ q : Nat, q < H.size → ¬ A1 q → H1[q]? = H[q]?) → va_S A0 H0 H1 locs1 → W p l e R s m args below meth c H1 locs1 (cells + mc) (slots + ms) Q (F0 m (pc + 3) ls (.long r :: rest))) : W p l e R s m args below meth c H locs cells slots Q (F0 m pc ls st0) := by
  intro T hT X
  rcases hr T hT X with ⟨v, st₀, t, T', L, h0, X', hL, e1, e2, ⟨⟨r, u, hv, hp, hb⟩, hF⟩, st⟩ | ⟨q, st₀, t, T', L, E, ce, h0, X', hL, e1, e2, ⟨u, hp, hb, hF⟩, hce, hcv, hcl, st⟩
  · cases hv
    obtain ⟨k1, k2, k3⟩ := vx_keep h0 e1 hS hA hf hL hF
    obtain ⟨t2, a1, b1⟩ := kk r u t T'.heap (locs ++ L) e1.symm (by rw [← e2]; exact X'.warmed.alike) hp hb k1 k2 k3 T' rfl X'
    exact ⟨t2, st t2 a1, b1⟩
  · obtain ⟨k1, k2, k3⟩ := vx_keep h0 e1 hS hAX hf hL hF
    obtain ⟨t2, a1, b1⟩ := kx E ce q u t T'.heap (locs ++ L) e1.symm (by rw [← e2]; exact X'.warmed.alike) hp hb k1 k2 k3 (by rw [e1]; exact hce) hcv hcl T' rfl X'
    exact ⟨t2, st.trans a1, b1⟩
theorem vx_callf {S SX : Type} {post : UInt32 → S → Prop} {px : SX → Prop} {B : S → State → Prop} {BX : String → SX → State → Prop} {AX : Nat → Prop} (hr : vx_Run p l e R s m args below meth c H locs cells slots mc ms (F0 m pc ls st0) rest (va_Qf post B A1 a) (vx_X px BX AX) free) (hS : va_S A0 H0 H locs) (hA : ∀ q, q < H.size → A1 q → A0 q) (hf : ∀ q, free q → A0 q) (hAX : ∀ q, q < H.size → AX q → A0 q)
    (kx : ∀ (E : String) (ce : Cell) (q9 : Addr) (u : SX) (t : State) (H1 : Heap) (locs1 : List Loc), t.heap = H1 → s.vm.Alike t.vm → px u → BX E u t → H.size ≤ H1.size → (∀ q : Nat, q < H.size → ¬ AX q → H1[q]? = H[q]?) → va_S A0 H0 H1 locs1 → H1[q9]? = some ce → ce.vm = .none → s.vm.findClass E = some ce.cls → vx_W p l e R s m args below meth c H1 locs1 (cells + mc) (slots + ms) Q (F0 m pc ls rest) q9)
    (kk : ∀ (r : UInt32) (u : S) (t : State) (H1 : Heap) (locs1 : List Loc), t.heap = H1 → s.vm.Alike t.vm → post r u → B u t → H.size ≤ H1.size → (∀ q : Nat, q < H.size → ¬ A1 q → H1[q]? = H[q]?) → va_S A0 H0 H1 locs1 → W p l e R s m args below meth c H1 locs1 (cells + mc) (slots + ms) Q (F0 m (pc + 3) ls (.float r :: rest))) : W p l e R s m args below meth c H locs cells slots Q (F0 m pc ls st0) := by
  intro T hT X
  rcases hr T hT X with ⟨v, st₀, t, T', L, h0, X', hL, e1, e2, ⟨⟨r, u, hv, hp, hb⟩, hF⟩, st⟩ | ⟨q, st₀, t, T', L, E, ce, h0, X', hL, e1, e2, ⟨u, hp, hb, hF⟩, hce, hcv, hcl, st⟩
  · cases hv
    obtain ⟨k1, k2, k3⟩ := vx_keep h0 e1 hS hA hf hL hF
    obtain ⟨t2, a1, b1⟩ := kk r u t T'.heap (locs ++ L) e1.symm (by rw [← e2]; exact X'.warmed.alike) hp hb k1 k2 k3 T' rfl X'
    exact ⟨t2, st t2 a1, b1⟩
  · obtain ⟨k1, k2, k3⟩ := vx_keep h0 e1 hS hAX hf hL hF
    obtain ⟨t2, a1, b1⟩ := kx E ce q u t T'.heap (locs ++ L) e1.symm (by rw [← e2]; exact X'.warmed.alike) hp hb k1 k2 k3 (by rw [e1]; exact hce) hcv hcl T' rfl X'
    exact ⟨t2, st.trans a1, b1⟩
theorem vx_calld {S SX : Type} {post : UInt64 → S → Prop} {px : SX → Prop} {B : S → State → Prop} {BX : String → SX → State → Prop} {AX : Nat → Prop} (hr : vx_Run p l e R s m args below meth c H locs cells slots mc ms (F0 m pc ls st0) rest (va_Qd post B A1 a) (vx_X px BX AX) free) (hS : va_S A0 H0 H locs) (hA : ∀ q, q < H.size → A1 q → A0 q) (hf : ∀ q, free q → A0 q) (hAX : ∀ q, q < H.size → AX q → A0 q)
    (kx : ∀ (E : String) (ce : Cell) (q9 : Addr) (u : SX) (t : State) (H1 : Heap) (locs1 : List Loc), t.heap = H1 → s.vm.Alike t.vm → px u → BX E u t → H.size ≤ H1.size → (∀ q : Nat, q < H.size → ¬ AX q → H1[q]? = H[q]?) → va_S A0 H0 H1 locs1 → H1[q9]? = some ce → ce.vm = .none → s.vm.findClass E = some ce.cls → vx_W p l e R s m args below meth c H1 locs1 (cells + mc) (slots + ms) Q (F0 m pc ls rest) q9)
    (kk : ∀ (r : UInt64) (u : S) (t : State) (H1 : Heap) (locs1 : List Loc), t.heap = H1 → s.vm.Alike t.vm → post r u → B u t → H.size ≤ H1.size → (∀ q : Nat, q < H.size → ¬ A1 q → H1[q]? = H[q]?) → va_S A0 H0 H1 locs1 → W p l e R s m args below meth c H1 locs1 (cells + mc) (slots + ms) Q (F0 m (pc + 3) ls (.double r :: rest))) : W p l e R s m args below meth c H locs cells slots Q (F0 m pc ls st0) := by
  intro T hT X
  rcases hr T hT X with ⟨v, st₀, t, T', L, h0, X', hL, e1, e2, ⟨⟨r, u, hv, hp, hb⟩, hF⟩, st⟩ | ⟨q, st₀, t, T', L, E, ce, h0, X', hL, e1, e2, ⟨u, hp, hb, hF⟩, hce, hcv, hcl, st⟩
  · cases hv
    obtain ⟨k1, k2, k3⟩ := vx_keep h0 e1 hS hA hf hL hF
    obtain ⟨t2, a1, b1⟩ := kk r u t T'.heap (locs ++ L) e1.symm (by rw [← e2]; exact X'.warmed.alike) hp hb k1 k2 k3 T' rfl X'
    exact ⟨t2, st t2 a1, b1⟩
  · obtain ⟨k1, k2, k3⟩ := vx_keep h0 e1 hS hAX hf hL hF
    obtain ⟨t2, a1, b1⟩ := kx E ce q u t T'.heap (locs ++ L) e1.symm (by rw [← e2]; exact X'.warmed.alike) hp hb k1 k2 k3 (by rw [e1]; exact hce) hcv hcl T' rfl X'
    exact ⟨t2, st.trans a1, b1⟩
theorem vx_callv {S SX : Type} {post : S → Prop} {px : SX → Prop} {B : S → State → Prop} {BX : String → SX → State → Prop} {AX : Nat → Prop} (hr : vx_Run p l e R s m args below meth c H locs cells slots mc ms (F0 m pc ls st0) rest (va_Qv post B A1 a) (vx_X px BX AX) free) (hS : va_S A0 H0 H locs) (hA : ∀ q, q < H.size → A1 q → A0 q) (hf : ∀ q, free q → A0 q) (hAX : ∀ q, q < H.size → AX q → A0 q)
    (kx : ∀ (E : String) (ce : Cell) (q9 : Addr) (u : SX) (t : State) (H1 : Heap) (locs1 : List Loc), t.heap = H1 → s.vm.Alike t.vm → px u → BX E u t → H.size ≤ H1.size → (∀ q : Nat, q < H.size → ¬ AX q → H1[q]? = H[q]?) → va_S A0 H0 H1 locs1 → H1[q9]? = some ce → ce.vm = .none → s.vm.findClass E = some ce.cls → vx_W p l e R s m args below meth c H1 locs1 (cells + mc) (slots + ms) Q (F0 m pc ls rest) q9)
    (kk : ∀ (u : S) (t : State) (H1 : Heap) (locs1 : List Loc), t.heap = H1 → s.vm.Alike t.vm → post u → B u t → H.size ≤ H1.size → (∀ q : Nat, q < H.size → ¬ A1 q → H1[q]? = H[q]?) → va_S A0 H0 H1 locs1 → W p l e R s m args below meth c H1 locs1 (cells + mc) (slots + ms) Q (F0 m (pc + 3) ls (rest))) : W p l e R s m args below meth c H locs cells slots Q (F0 m pc ls st0) := by
  intro T hT X
  rcases hr T hT X with ⟨v, st₀, t, T', L, h0, X', hL, e1, e2, ⟨⟨u, hv, hp, hb⟩, hF⟩, st⟩ | ⟨q, st₀, t, T', L, E, ce, h0, X', hL, e1, e2, ⟨u, hp, hb, hF⟩, hce, hcv, hcl, st⟩
  · cases hv
    obtain ⟨k1, k2, k3⟩ := vx_keep h0 e1 hS hA hf hL hF
    obtain ⟨t2, a1, b1⟩ := kk u t T'.heap (locs ++ L) e1.symm (by rw [← e2]; exact X'.warmed.alike) hp hb k1 k2 k3 T' rfl X'
    exact ⟨t2, st t2 a1, b1⟩
  · obtain ⟨k1, k2, k3⟩ := vx_keep h0 e1 hS hAX hf hL hF
    obtain ⟨t2, a1, b1⟩ := kx E ce q u t T'.heap (locs ++ L) e1.symm (by rw [← e2]; exact X'.warmed.alike) hp hb k1 k2 k3 (by rw [e1]; exact hce) hcv hcl T' rfl X'
    exact ⟨t2, st.trans a1, b1⟩
end Rows
section Ends
variable {p : Program} {l : Launch} {e : Env} {R : Room} {s : State} {m : MethodId} {args : Array Value} {below : List Frame} {meth : Method} {c : Code} {H : Heap} {locs : List Loc} {cells slots : Nat} {Q : State → Prop}
variable {mc ms : Nat} {free : Addr → Prop} {A0 A1 : Nat → Prop} {H0 : Heap} {a : Array Value} {ls : Array Slot} {st0 rest : List Value}
variable {Qc : Array Value → State → Outcome → State → Prop} {XC : String → State → State → Prop}
/-- what a body that may throw owes at its end -/
def vx_MQ (below : List Frame) (Qc : Array Value → State → Outcome → State → Prop) (XC : String → State → State → Prop) (a : Array Value) (s : State) (mc ms : Nat) (free : Addr → Prop) : State → Prop := fun t =>
  ∃ o, t.status = .running ∧ Ended t below o ∧ vx_Q Qc XC mc ms free a s o t
theorem vx_ret {g : JFrame} {mc ms : Nat} (k : W p l e R s m args below meth c H locs cells slots (MQ below Qc args s mc ms free) g) : W p l e R s m args below meth c H locs cells slots (vx_MQ below Qc XC args s mc ms free) g := by
  intro T hT X
  obtain ⟨t, a1, o, b1, b2, b3, b4⟩ := k T hT X
  exact ⟨t, a1, o, b1, b2, Or.inl ⟨b3, b4⟩⟩
/-- not caught here: it goes on to the caller -/
theorem vx_widen {g : JFrame} {q : Addr} {k n : Nat} (h1 : cells ≤ k) (h2 : slots ≤ n) (kk : vx_W p l e R s m args below meth c H locs k n Q g q) : vx_W p l e R s m args below meth c H locs cells slots Q g q := fun T hT X => kk T hT (stand_widen X h1 h2)
theorem vx_out {pc : Nat} {E : String} {ce : Cell} {q : Addr} {mc ms : Nat} (hout : ∀ x ∈ c.exceptionTable.toList, covers x pc = false) (hlocks : meth.locks = false) (hcell : H[q]? = some ce) (hv : ce.vm = .none) (hcl : s.vm.findClass E = some ce.cls)
    (hx : ∀ t : State, t.heap = H → s.vm.Alike t.vm → XC E s t) (hf : ∀ z ∈ locs, free z.base) (hc : cells ≤ mc) (hs : slots ≤ ms) :
    vx_W p l e R s m args below meth c H locs cells slots (vx_MQ below Qc XC args s mc ms free) (F0 m pc ls rest) q := by
  intro T hT X
  obtain ⟨st1, hrun, hend, hW, hsm⟩ := X.leaveThrown q (g := F0 m pc ls rest) rfl rfl rfl hout hlocks
  have hcell9 : (T.setFrames (.throwing q :: below)).heap[q]? = some ce := by
    show T.heap[q]? = some ce
    rw [hT]; exact hcell
  exact ⟨_, st1, .threw q, hrun, hend, Or.inr ⟨q, rfl, E, ce, locs, hx _ hT hW.alike, hcell9, hv, hcl, hW, hsm.mono hc hs, hf⟩⟩
theorem vx_frame {U : State} {k n : Nat} (h : s.sameButNew ({ U with vm := s.vm } : State) locs k n) : s.heap.size ≤ U.heap.size ∧ ∀ q : Nat, q < s.heap.size → (∀ z ∈ locs, z.base ≠ q) → U.heap[q]? = s.heap[q]? := by
  obtain ⟨-, h2, -, -, -, h6⟩ := h
  refine ⟨h2, fun q hq hz => ?_⟩
  obtain ⟨c9, e1, e2, e3, e4⟩ := h6 q _ (Array.getElem?_eq_getElem hq)
  have hs : c9.slots = (s.heap[q]).slots := Array.ext_getElem? fun i => e4 i fun hm => hz _ hm rfl
  have h9 : c9 = s.heap[q] := by
    rw [hs] at e2
    exact e2
  have e5 : U.heap[q]? = some c9 := e1
  rw [e5, h9, Array.getElem?_eq_getElem hq]
/-- the words of a throw but the four that speak of the heap -/
def vx_no (w : Cond) : Bool := decide (w ≠ .isRef (.static Bundle.tN "UNASSIGNED_STACK" Bundle.steD)) && decide (w ≠ .isRef (.static Bundle.tN "SUPPRESSED_SENTINEL" Bundle.listD)) && decide (w ≠ .laysStatic Bundle.tN "UNASSIGNED_STACK" Bundle.steD) && decide (w ≠ .laysStatic Bundle.tN "SUPPRESSED_SENTINEL" Bundle.listD)
def vx_at0 (own : String) (ic : Nat) (X : String) (names : List String) : List Cond := (Bundle.ownAtoms0 own ic X names).filter vx_no
def vx_atS (own : String) (ic : Nat) (X : String) (names : List String) : List Cond := (Bundle.ownAtoms own ic X names).filter vx_no
/-- a word that the tables alone decide, or a good one -/
def vx_ot (w : Cond) : Bool := w.onTables || goodWord w
theorem vx_ot_at {args a' : Array Value} {s U : State} {w : Cond} (hW : s.WarmedH U.vm) (hvm : s.vm = U.vm) (hg : vx_ot w = true) (h : w.before args s = true) : w.before a' U = true := by
  simp only [vx_ot, Bool.or_eq_true] at hg
  rcases hg with hg | hg
  · exact va_tabs hg hvm h
  · exact word_at hW (good_of_word hg) h
/-- a list's words: the good ones out of the method's own list, the others by premises of their own -/
theorem vx_hat {args : Array Value} {s : State} {L B : List Cond} (h1 : ∀ w ∈ L.filter goodWord, w.before args s = true) (h2 : ∀ w ∈ L.filter (fun w => !goodWord w), w ∈ B) (h3 : ∀ w ∈ B, w.before args s = true) : ∀ w ∈ L, w.before args s = true := by
  intro w hw
  by_cases g : goodWord w = true
  · exact h1 w (List.mem_filter.mpr ⟨hw, g⟩)
  · refine h3 w (h2 w (List.mem_filter.mpr ⟨hw, ?_⟩))
    show (!goodWord w) = true
    cases hgw : goodWord w
    · rfl
    · exact absurd hgw g
theorem vx_c {args : Array Value} {s : State} {w : Cond} {B : List Cond} (h : w.before args s = true) (t : ∀ w ∈ B, w.before args s = true) : ∀ w' ∈ w :: B, w'.before args s = true := fun w' h' => (List.mem_cons.mp h').elim (fun e => by rw [e]; exact h) (t w')
theorem vx_n {args : Array Value} {s : State} : ∀ w ∈ ([] : List Cond), w.before args s = true := fun _ h => nomatch h
theorem vx_own {args : Array Value} {s : State} {L : List Cond} (h1 : ∀ w ∈ L.filter vx_no, w.before args s = true)
    (hU : (Cond.isRef (.static Bundle.tN "UNASSIGNED_STACK" Bundle.steD)).before args s = true) (hN : (Cond.isRef (.static Bundle.tN "SUPPRESSED_SENTINEL" Bundle.listD)).before args s = true)
    (lU : (Cond.laysStatic Bundle.tN "UNASSIGNED_STACK" Bundle.steD).before args s = true) (lN : (Cond.laysStatic Bundle.tN "SUPPRESSED_SENTINEL" Bundle.listD).before args s = true) : ∀ w ∈ L, w.before args s = true := by
  intro w hw
  by_cases e1 : w = .isRef (.static Bundle.tN "UNASSIGNED_STACK" Bundle.steD)
  · rw [e1]; exact hU
  · by_cases e2 : w = .isRef (.static Bundle.tN "SUPPRESSED_SENTINEL" Bundle.listD)
    · rw [e2]; exact hN
    · by_cases e3 : w = .laysStatic Bundle.tN "UNASSIGNED_STACK" Bundle.steD
      · rw [e3]; exact lU
      · by_cases e4 : w = .laysStatic Bundle.tN "SUPPRESSED_SENTINEL" Bundle.listD
        · rw [e4]; exact lN
        · exact h1 w (List.mem_filter.mpr ⟨hw, by unfold vx_no; rw [decide_eq_true e1, decide_eq_true e2, decide_eq_true e3, decide_eq_true e4]; rfl⟩)
/-- where a static field lies, its class's statics cell in H -/
def vx_L (C n d : String) (A : Nat → Prop) (U : State) (H : Heap) : Prop := ∃ (c : ClassId) (k : Class) (i : Nat) (f : Field) (a : Nat) (cell : Cell), U.vm.findClass C = some c ∧ U.fieldFound? C n d = some (c, k, i, f) ∧ f.isStatic = true ∧ k.statics = some a ∧ H[a]? = some cell ∧ cell.vm.isStatics = true ∧ cell.cls = c ∧ f.slot < cell.slots.size ∧ k.staticTypes[f.slot]? = some f.type ∧ ¬ A a
theorem vx_L.moved {C n d : String} {A : Nat → Prop} {u U : State} {H : Heap} (hvm : u.vm.Alike U.vm) (h : vx_L C n d A u H) : vx_L C n d A U H := by
  obtain ⟨c, k, i, f, a, cell, h1, h2, h3, h4, h5, h6, h7, h8, h9, h10⟩ := h
  obtain ⟨k', hi', he⟩ := State.fieldFound?_setVm hvm h2
  exact ⟨c, k', i, f, a, cell, by rw [hvm.findClass]; exact h1, hi', h3, by rw [he]; exact h4, h5, h6, h7, h8, by rw [he]; exact h9, h10⟩
theorem vx_L.kept {C n d : String} {A : Nat → Prop} {U : State} {H H1 : Heap} (h : vx_L C n d A U H) (hq : ∀ a : Nat, a < H.size → ¬ A a → H1[a]? = H[a]?) : vx_L C n d A U H1 := by
  obtain ⟨c, k, i, f, a, cell, h1, h2, h3, h4, h5, h6, h7, h8, h9, h10⟩ := h
  exact ⟨c, k, i, f, a, cell, h1, h2, h3, h4, by rw [hq a (Array.getElem?_eq_some_iff.mp h5).1 h10]; exact h5, h6, h7, h8, h9, h10⟩
theorem vx_L.narrow {C n d : String} {A B : Nat → Prop} {U : State} {H : Heap} (h : vx_L C n d A U H) (hAB : ∀ q, B q → A q) : vx_L C n d B U H := by
  obtain ⟨c, k, i, f, a, cell, h1, h2, h3, h4, h5, h6, h7, h8, h9, h10⟩ := h
  exact ⟨c, k, i, f, a, cell, h1, h2, h3, h4, h5, h6, h7, h8, h9, fun z => h10 (hAB _ z)⟩
theorem vx_L.word {C n d : String} {A : Nat → Prop} {s : State} {args : Array Value} (h : vx_L C n d A s s.heap) : (Cond.laysStatic C n d).before args s = true := by
  obtain ⟨c, k, i, f, a, cell, h1, h2, h3, h4, h5, h6, h7, h8, h9, -⟩ := h
  show (Cond.laysStatic C n d).holds args s none s [] = true
  exact Cond.laysStatic_of h1 h2 h3 h4 h5 h6 h7 h8 h9
/-- .. and what it holds: null or some reference -/
def vx_Zq (C n d : String) (A : Nat → Prop) (U : State) (H : Heap) : Prop := va_Zq C n d A U H ∧ vx_L C n d A U H
theorem vx_Zq.moved {C n d : String} {A : Nat → Prop} {u U : State} {H : Heap} (hvm : u.vm.Alike U.vm) (h : vx_Zq C n d A u H) : vx_Zq C n d A U H := ⟨va_Zq.moved hvm h.1, vx_L.moved hvm h.2⟩
theorem vx_Zq.kept {C n d : String} {A : Nat → Prop} {U : State} {H H1 : Heap} (h : vx_Zq C n d A U H) (hq : ∀ a : Nat, a < H.size → ¬ A a → H1[a]? = H[a]?) : vx_Zq C n d A U H1 := ⟨va_Zq.kept h.1 hq, vx_L.kept h.2 hq⟩
theorem vx_Zq.narrow {C n d : String} {A B : Nat → Prop} {U : State} {H : Heap} (h : vx_Zq C n d A U H) (hAB : ∀ q, B q → A q) : vx_Zq C n d B U H := ⟨va_Zq.narrow h.1 hAB, vx_L.narrow h.2 hAB⟩
theorem vx_Zqof {args : Array Value} {s : State} {C n d : String} {A : Nat → Prop} (hl : (Cond.laysStatic C n d).before args s = true) (hini : (Cond.initialized C).before args s = true) (h : (Cond.isRef (.static C n d)).before args s = true) (hA : ∀ a : Nat, a < s.heap.size → ¬ A a) : vx_Zq C n d A s s.heap := by
  refine ⟨va_Zqof hl hini h hA, ?_⟩
  obtain ⟨c, k, i, f, a, cell, h1, h2, h3, h4, h5, h6, h7, h8, h9⟩ := Cond.laysStatic_spec hl
  exact ⟨c, k, i, f, a, cell, h1, h2, h3, h4, h5, h6, h7, h8, h9, hA a (Array.getElem?_eq_some_iff.mp h5).1⟩
theorem vx_isRef {C n d : String} {v : Value} {A : Nat → Prop} {s : State} {args : Array Value} (h : va_Z C n d v A s s.heap) (hv : v.isRef = true) : (Cond.isRef (.static C n d)).before args s = true := by
  obtain ⟨cf, kf, fi, f, a, cell, h1, h2, h3, h4, h5, h6, h7, -⟩ := h
  have he : (Term.static C n d).eval args s none [] s = some v := by
    simp [Term.eval, State.fieldNamed?, h1, h2, h4, h5, h6, h7]
  simp only [Cond.before, Cond.holds, Cond.value, he]
  cases v <;> simp_all [Value.isRef]
theorem vx_isRefq {C n d : String} {A : Nat → Prop} {s : State} {args : Array Value} (h : va_Zq C n d A s s.heap) : (Cond.isRef (.static C n d)).before args s = true := by
  rcases h with h | ⟨t, h⟩
  · exact vx_isRef h rfl
  · exact vx_isRef h rfl
/-- the same frame, seen from here: as if the method were called anew in this heap -/
theorem vx_rebase {T : State} (X : Stand p l e R s m args below meth c T locs cells slots) {R' : Room} (hf : R'.frames ≤ R.frames) (hl : R'.locals ≤ R.locals) (hc : cells + R'.cells ≤ R.cells) (hs : slots + R'.slots ≤ R.slots) :
    Stand p l e R' ((T.setVm s.vm).setFrames (.invoking m args :: below)) m args below meth c T [] 0 0 := by
  have htop : (T.setVm s.vm).topJava?.isSome := X.here.top
  have hF : ((T.setVm s.vm).setFrames (.invoking m args :: below)).frames = .invoking m args :: below := State.frames_setFrames _ (State.cur_lt_of_top htop)
  obtain ⟨g₀, hg0⟩ := Option.isSome_iff_exists.mp htop
  obtain ⟨r, hr⟩ := State.topJava?_eq_some.mp hg0
  have hl9 : e.platform.stackLimits (T.setVm s.vm).me = e.platform.stackLimits s.me := X.limits
  have hb9 : (T.setVm s.vm).me.stackBytes = s.me.stackBytes := X.bytes
  refine ⟨X.admits, X.cas, X.clock, hF, ?_, X.hears, X.method, X.code, X.here, X.tail, X.warmed, ?_, ?_, ?_⟩
  · have h := X.room
    have hU : ((T.setVm s.vm).setFrames (.invoking m args :: below)).localsInUse = s.localsInUse := by
      rw [State.localsInUse_invoking hF (meth := meth) (c := c) X.method X.code, State.localsInUse_invoking X.frames X.method X.code]
    simp only [State.hasRoom, Bool.and_eq_true, decide_eq_true_eq] at h ⊢
    obtain ⟨⟨⟨⟨h1, h2, h3, h4, h5, h6⟩, h7⟩, h8⟩, h9⟩ := h
    rw [X.frames, List.length_cons] at h2 h3
    have q1 := X.heapSize
    have q2 := X.used
    simp only [hF, hU, List.length_cons, State.stackLimits_setFrames, State.stackBytes_setFrames, hl9, hb9]
    refine ⟨⟨⟨⟨by omega, by omega, by omega, by omega, by omega, h6⟩, ?_⟩, ?_⟩, X.book⟩
    · show T.heap.size + R'.cells ≤ e.platform.maxCells
      omega
    · show T.slotsUsed + R'.slots ≤ e.platform.maxSlots
      omega
  · rw [State.stackLimits_setFrames]; rfl
  · rw [State.stackBytes_setFrames]; rfl
  · refine ⟨?_, Nat.le_refl _, Nat.le_refl _, ?_, ?_, fun a c9 h9 => ⟨c9, h9, rfl, rfl, fun _ _ => rfl⟩⟩
    · obtain ⟨t, ht, -⟩ := State.frames_cons hr
      show T.setVm s.vm = { ((T.setVm s.vm).setFrames (.invoking m args :: below)).setFrames (T.setVm s.vm).frames with heap := T.heap, slotsUsed := T.slotsUsed }
      rw [State.setFrames_setFrames, State.setFrames_self ht]
      rfl
    · show T.slotsUsed = T.slotsUsed + ((T.heap.toList.drop T.heap.size).map (·.slots.size)).sum
      rw [List.drop_eq_nil_of_le (Nat.le_of_eq Array.length_toList)]
      rfl
    · show ((T.heap.toList.drop T.heap.size).map (·.slots.size)).sum ≤ 0
      rw [List.drop_eq_nil_of_le (Nat.le_of_eq Array.length_toList)]
      exact Nat.le_refl _
/-- 'throw new E()': new; dup; invokespecial; athrow -/
theorem vx_throw0 {cc : ByteArray} {pc : Nat} (hexec : p.tables.exec = Jvm.exec) (hb : c.code = cc) (hl : l.stackTraces = false) {own cls : String} {names : List String} {ik ic mc ms : Nat} {A : Nat → Prop}
    (hown : s.vm.findClass own = some m.cls) (hcls : Bundle.fit cls = true) (hnames : ∀ n ∈ names, Bundle.fit n = true)
    (hk : (Cond.classLink own ik cls).before args s = true) (hini : (Cond.initialized cls).before args s = true) (hat : ∀ w ∈ vx_at0 own ic cls names, w.before args s = true)
    (hgood : ∀ w ∈ Cond.classLink own ik cls :: Cond.initialized cls :: vx_at0 own ic cls names, vx_ot w = true)
    (hU : vx_Zq Bundle.tN "UNASSIGNED_STACK" Bundle.steD A s s.heap) (hN : vx_Zq Bundle.tN "SUPPRESSED_SENTINEL" Bundle.listD A s s.heap) (hS : va_S A s.heap H locs) (hsize : ls.size = c.maxLocals)
    (d0 : decode cc pc = .ok (.new ik, 3)) (d3 : decode cc (pc + 3) = .ok (.dup, 1)) (d4 : decode cc (pc + 4) = .ok (.invokespecial ic, 3)) (d7 : decode cc (pc + 7) = .ok (.athrow, 1))
    (hout : ∀ x ∈ c.exceptionTable.toList, covers x (pc + 7) = false)
    (hRframes : names.length + 3 < R.frames) (hRlocals : (rest.map fun v => v.category).sum + (13 * (names.length + 1) + 42) ≤ R.locals) (hRcells : cells + 1 ≤ R.cells) (hRslots : slots + 6 ≤ R.slots) (hlocks : meth.locks = false)
    (hx : ∀ t : State, s.vm.Alike t.vm → H.size ≤ t.heap.size → (∀ q : Nat, q < H.size → t.heap[q]? = H[q]?) → XC cls s t)
    (hf : ∀ z ∈ locs, free z.base) (hc : cells + 1 ≤ mc) (hs : slots + 6 ≤ ms) :
    W p l e R s m args below meth c H locs cells slots (vx_MQ below Qc XC args s mc ms free) (F0 m pc ls rest) := by
  intro T hT X
  have htr : e.platform.stackTraces = false := (show e.platform.stackTraces = l.stackTraces by rw [X.admits.platform]).trans hl
  have Y := vx_rebase X (R' := { frames := R.frames, locals := R.locals, cells := 1, slots := 6 }) (Nat.le_refl _) (Nat.le_refl _) hRcells hRslots
  obtain ⟨s', hA⟩ : ∃ z, z = (T.setVm s.vm).setFrames (.invoking m args :: below) := ⟨_, rfl⟩
  rw [← hA] at Y
  have hvm : s'.vm = s.vm := by rw [hA]; rfl
  have hhp : s'.heap = H := by rw [hA]; exact hT
  have hW0 : s.WarmedH s'.vm := by rw [hvm]; exact State.WarmedH.refl s
  have hat' : ∀ w ∈ vx_at0 own ic cls names, w.before args s' = true := fun w hw => vx_ot_at hW0 hvm.symm (hgood w (List.mem_cons_of_mem _ (List.mem_cons_of_mem _ hw))) (hat w hw)
  have hk' : (Cond.classLink own ik cls).before args s' = true := vx_ot_at hW0 hvm.symm (hgood _ List.mem_cons_self) hk
  have hini' : (Cond.initialized cls).before args s' = true := vx_ot_at hW0 hvm.symm (hgood _ (List.mem_cons_of_mem _ List.mem_cons_self)) hini
  have hU' : vx_Zq Bundle.tN "UNASSIGNED_STACK" Bundle.steD A s' s'.heap := by rw [hhp]; exact vx_Zq.moved hW0.alike (hU.kept hS.2.1)
  have hN' : vx_Zq Bundle.tN "SUPPRESSED_SENTINEL" Bundle.listD A s' s'.heap := by rw [hhp]; exact vx_Zq.moved hW0.alike (hN.kept hS.2.1)
  have h : ∀ w ∈ Bundle.ownAtoms0 own ic cls names, w.before args s' = true := vx_own hat' (vx_isRefq hU'.1) (vx_isRefq hN'.1) hU'.2.word hN'.2.word
  have hown' : s'.vm.findClass own = some m.cls := by rw [hvm]; exact hown
  have hins : (Cond.instantiable cls 6).before args s' = true := h _ (by simp [Bundle.ownAtoms0])
  obtain ⟨vm₁, cX, kX, hfX, hkX, -, -, X₁, st1⟩ := Y.newCold hexec (own := own) (C := cls) (index := ik) (n := 6) hown' hk' hins hini'
    (g := F0 m pc ls rest) rfl (by rw [hb]; exact d0) (Nat.le_refl _) (Nat.le_refl _)
  generalize hT1 : (T.setVm vm₁).pushCell { cls := cX, slots := kX.instanceTypes.map defaultValue, vm := .none } = T1 at X₁ st1
  have hcat : (Value.ref T.heap.size).category = 1 := rfl
  have hcellA : T1.heap[T.heap.size]? = some (freshCell cX kX) := by rw [← hT1]; exact State.heap_pushCell_size _ _
  have d3' : decode c.code (pc + 3) = .ok (.dup, 1) := by rw [hb]; exact d3
  obtain ⟨U, hsteps, hrun, hend, hW, hsame, ce, hce, hO⟩ := X₁.ctorThrow0 hexec htr (own := own) (cls := cls) (names := names) (ic := ic) hown' hcls hnames h (fun x hx => nomatch hx) hfX hkX hcellA (by rw [hhp, hT]; exact Nat.le_refl _)
    (g := { method := m, pc := pc + 4, locals := ls, stack := .ref T.heap.size :: .ref T.heap.size :: rest, locked := none }) rfl hsize rfl rfl (rest := rest) rfl
    (by rw [hb]; exact d4) (by rw [hb]; exact d7) hout hRframes (by simp only [List.map_cons, List.sum_cons, hcat]; omega) hlocks
  obtain ⟨f1, f2⟩ := vx_frame hsame
  rw [hhp] at f1 f2
  have hWs : s.WarmedH U.vm := State.WarmedH.trans hW0 hW
  have hcl : s.vm.findClass cls = some ce.cls := by
    have h9 := hO.cls
    rw [hvm] at h9
    exact h9
  have hall : s.sameButNew ({ U with vm := s.vm } : State) locs mc ms := by
    subst hA
    obtain ⟨e1, e2⟩ := hsame
    rw [State.setFrames_setFrames] at e1
    have h2 : (T.setVm s.vm).sameButNew ({ U with vm := s.vm } : State) [] (0 + 1) (0 + 6) := ⟨e1, e2⟩
    have h3 := X.same.trans h2
    rw [List.append_nil] at h3
    exact h3.mono hc hs
  refine ⟨U, ?_, .threw T.heap.size, hrun, hend, Or.inr ⟨T.heap.size, rfl, cls, ce, locs, hx U hWs.alike f1 (fun q hq => f2 q hq (fun z hz => nomatch hz)), hce, hO.vm, hcl, hWs, hall, hf⟩⟩
  refine st1 _ ?_
  show Steps p.tables e below (T1.setTop { method := m, pc := pc + 3, locals := ls, stack := .ref T.heap.size :: rest, locked := none }) _
  jvm_step X₁.here [X₁.here.top, hexec, d3', Value.category]
  exact hsteps
/-- 'throw new E("text")': new; dup; ldc; invokespecial; athrow -/
theorem vx_throwS {cc : ByteArray} {pc : Nat} (hexec : p.tables.exec = Jvm.exec) (hb : c.code = cc) (hl : l.stackTraces = false) {own cls text : String} {names : List String} {ik is ic mc ms sa : Nat} {A : Nat → Prop}
    (hown : s.vm.findClass own = some m.cls) (hcls : Bundle.fit cls = true) (hnames : ∀ n ∈ names, Bundle.fit n = true)
    (hk : (Cond.classLink own ik cls).before args s = true) (hini : (Cond.initialized cls).before args s = true) (hstr : vk_R own is text sa s) (hat : ∀ w ∈ vx_atS own ic cls names, w.before args s = true)
    (hgood : ∀ w ∈ Cond.classLink own ik cls :: Cond.initialized cls :: vx_atS own ic cls names, vx_ot w = true)
    (hU : vx_Zq Bundle.tN "UNASSIGNED_STACK" Bundle.steD A s s.heap) (hN : vx_Zq Bundle.tN "SUPPRESSED_SENTINEL" Bundle.listD A s s.heap) (hS : va_S A s.heap H locs) (hsize : ls.size = c.maxLocals)
    (d0 : decode cc pc = .ok (.new ik, 3)) (d3 : decode cc (pc + 3) = .ok (.dup, 1)) (d4 : decode cc (pc + 4) = .ok (.ldc is, 2)) (d6 : decode cc (pc + 6) = .ok (.invokespecial ic, 3)) (d9 : decode cc (pc + 9) = .ok (.athrow, 1))
    (hout : ∀ x ∈ c.exceptionTable.toList, covers x (pc + 9) = false)
    (hRframes : names.length + 3 < R.frames) (hRlocals : (rest.map fun v => v.category).sum + (13 * (names.length + 1) + 43) ≤ R.locals) (hRcells : cells + 1 ≤ R.cells) (hRslots : slots + 6 ≤ R.slots) (hlocks : meth.locks = false)
    (hx : ∀ t : State, s.vm.Alike t.vm → H.size ≤ t.heap.size → (∀ q : Nat, q < H.size → t.heap[q]? = H[q]?) → XC cls s t)
    (hf : ∀ z ∈ locs, free z.base) (hc : cells + 1 ≤ mc) (hs : slots + 6 ≤ ms) :
    W p l e R s m args below meth c H locs cells slots (vx_MQ below Qc XC args s mc ms free) (F0 m pc ls rest) := by
  intro T hT X
  have htr : e.platform.stackTraces = false := (show e.platform.stackTraces = l.stackTraces by rw [X.admits.platform]).trans hl
  have Y := vx_rebase X (R' := { frames := R.frames, locals := R.locals, cells := 1, slots := 6 }) (Nat.le_refl _) (Nat.le_refl _) hRcells hRslots
  obtain ⟨s', hA⟩ : ∃ z, z = (T.setVm s.vm).setFrames (.invoking m args :: below) := ⟨_, rfl⟩
  rw [← hA] at Y
  have hvm : s'.vm = s.vm := by rw [hA]; rfl
  have hhp : s'.heap = H := by rw [hA]; exact hT
  have hW0 : s.WarmedH s'.vm := by rw [hvm]; exact State.WarmedH.refl s
  have hat' : ∀ w ∈ vx_atS own ic cls names, w.before args s' = true := fun w hw => vx_ot_at hW0 hvm.symm (hgood w (List.mem_cons_of_mem _ (List.mem_cons_of_mem _ hw))) (hat w hw)
  have hk' : (Cond.classLink own ik cls).before args s' = true := vx_ot_at hW0 hvm.symm (hgood _ List.mem_cons_self) hk
  have hini' : (Cond.initialized cls).before args s' = true := vx_ot_at hW0 hvm.symm (hgood _ (List.mem_cons_of_mem _ List.mem_cons_self)) hini
  have hU' : vx_Zq Bundle.tN "UNASSIGNED_STACK" Bundle.steD A s' s'.heap := by rw [hhp]; exact vx_Zq.moved hW0.alike (hU.kept hS.2.1)
  have hN' : vx_Zq Bundle.tN "SUPPRESSED_SENTINEL" Bundle.listD A s' s'.heap := by rw [hhp]; exact vx_Zq.moved hW0.alike (hN.kept hS.2.1)
  have h : ∀ w ∈ Bundle.ownAtoms own ic cls names, w.before args s' = true := vx_own hat' (vx_isRefq hU'.1) (vx_isRefq hN'.1) hU'.2.word hN'.2.word
  have hown' : s'.vm.findClass own = some m.cls := by rw [hvm]; exact hown
  have hins : (Cond.instantiable cls 6).before args s' = true := h _ (by simp [Bundle.ownAtoms])
  obtain ⟨vm₁, cX, kX, hfX, hkX, -, -, X₁, st1⟩ := Y.newCold hexec (own := own) (C := cls) (index := ik) (n := 6) hown' hk' hins hini'
    (g := F0 m pc ls rest) rfl (by rw [hb]; exact d0) (Nat.le_refl _) (Nat.le_refl _)
  generalize hT1 : (T.setVm vm₁).pushCell { cls := cX, slots := kX.instanceTypes.map defaultValue, vm := .none } = T1 at X₁ st1
  have hcat : (Value.ref T.heap.size).category = 1 := rfl
  have hcellA : T1.heap[T.heap.size]? = some (freshCell cX kX) := by rw [← hT1]; exact State.heap_pushCell_size _ _
  have d3' : decode c.code (pc + 3) = .ok (.dup, 1) := by rw [hb]; exact d3
  have d4' : decode c.code (pc + 4) = .ok (.ldc is, 2) := by rw [hb]; exact d4
  have hstr' : vk_R own is text sa s' := vk_R.warm hW0 hstr
  obtain ⟨U, hsteps, hrun, hend, hW, hsame, ce, hce, hO⟩ := X₁.ctorThrowS hexec htr (own := own) (cls := cls) (names := names) (ic := ic) hown' hcls hnames h (fun x hx => nomatch hx) hfX hkX hcellA (by rw [hhp, hT]; exact Nat.le_refl _) (msg := .ref sa) rfl
    (g := { method := m, pc := pc + 6, locals := ls, stack := .ref sa :: .ref T.heap.size :: .ref T.heap.size :: rest, locked := none }) rfl hsize rfl rfl (rest := rest) rfl
    (by rw [hb]; exact d6) (by rw [hb]; exact d9) hout hRframes (by simp only [List.map_cons, List.sum_cons, hcat]; omega) hlocks
  obtain ⟨f1, f2⟩ := vx_frame hsame
  rw [hhp] at f1 f2
  have hWs : s.WarmedH U.vm := State.WarmedH.trans hW0 hW
  have hcl : s.vm.findClass cls = some ce.cls := by
    have h9 := hO.cls
    rw [hvm] at h9
    exact h9
  have hall : s.sameButNew ({ U with vm := s.vm } : State) locs mc ms := by
    subst hA
    obtain ⟨e1, e2⟩ := hsame
    rw [State.setFrames_setFrames] at e1
    have h2 : (T.setVm s.vm).sameButNew ({ U with vm := s.vm } : State) [] (0 + 1) (0 + 6) := ⟨e1, e2⟩
    have h3 := X.same.trans h2
    rw [List.append_nil] at h3
    exact h3.mono hc hs
  refine ⟨U, ?_, .threw T.heap.size, hrun, hend, Or.inr ⟨T.heap.size, rfl, cls, ce, locs, hx U hWs.alike f1 (fun q hq => f2 q hq (fun z hz => nomatch hz)), hce, hO.vm, hcl, hWs, hall, hf⟩⟩
  refine st1 _ ?_
  show Steps p.tables e below (T1.setTop { method := m, pc := pc + 3, locals := ls, stack := .ref T.heap.size :: rest, locked := none }) _
  jvm_step X₁.here [X₁.here.top, hexec, d3', Value.category]
  exact X₁.ldcString hexec (own := own) (text := text) (index := is) (a := sa) hown' hstr'.1 hstr'.2
    (g := { method := m, pc := pc + 4, locals := ls, stack := .ref T.heap.size :: .ref T.heap.size :: rest, locked := none }) rfl d4' _ hsteps
/-- 'throw new E("text")', the text by a wide index -/
theorem vx_throwSW {cc : ByteArray} {pc : Nat} (hexec : p.tables.exec = Jvm.exec) (hb : c.code = cc) (hl : l.stackTraces = false) {own cls text : String} {names : List String} {ik is ic mc ms sa : Nat} {A : Nat → Prop}
    (hown : s.vm.findClass own = some m.cls) (hcls : Bundle.fit cls = true) (hnames : ∀ n ∈ names, Bundle.fit n = true)
    (hk : (Cond.classLink own ik cls).before args s = true) (hini : (Cond.initialized cls).before args s = true) (hstr : vk_R own is text sa s) (hat : ∀ w ∈ vx_atS own ic cls names, w.before args s = true)
    (hgood : ∀ w ∈ Cond.classLink own ik cls :: Cond.initialized cls :: vx_atS own ic cls names, vx_ot w = true)
    (hU : vx_Zq Bundle.tN "UNASSIGNED_STACK" Bundle.steD A s s.heap) (hN : vx_Zq Bundle.tN "SUPPRESSED_SENTINEL" Bundle.listD A s s.heap) (hS : va_S A s.heap H locs) (hsize : ls.size = c.maxLocals)
    (d0 : decode cc pc = .ok (.new ik, 3)) (d3 : decode cc (pc + 3) = .ok (.dup, 1)) (d4 : decode cc (pc + 4) = .ok (.ldc_w is, 3)) (d7 : decode cc (pc + 7) = .ok (.invokespecial ic, 3)) (d10 : decode cc (pc + 10) = .ok (.athrow, 1))
    (hout : ∀ x ∈ c.exceptionTable.toList, covers x (pc + 10) = false)
    (hRframes : names.length + 3 < R.frames) (hRlocals : (rest.map fun v => v.category).sum + (13 * (names.length + 1) + 43) ≤ R.locals) (hRcells : cells + 1 ≤ R.cells) (hRslots : slots + 6 ≤ R.slots) (hlocks : meth.locks = false)
    (hx : ∀ t : State, s.vm.Alike t.vm → H.size ≤ t.heap.size → (∀ q : Nat, q < H.size → t.heap[q]? = H[q]?) → XC cls s t)
    (hf : ∀ z ∈ locs, free z.base) (hc : cells + 1 ≤ mc) (hs : slots + 6 ≤ ms) :
    W p l e R s m args below meth c H locs cells slots (vx_MQ below Qc XC args s mc ms free) (F0 m pc ls rest) := by
  intro T hT X
  have htr : e.platform.stackTraces = false := (show e.platform.stackTraces = l.stackTraces by rw [X.admits.platform]).trans hl
  have Y := vx_rebase X (R' := { frames := R.frames, locals := R.locals, cells := 1, slots := 6 }) (Nat.le_refl _) (Nat.le_refl _) hRcells hRslots
  obtain ⟨s', hA⟩ : ∃ z, z = (T.setVm s.vm).setFrames (.invoking m args :: below) := ⟨_, rfl⟩
  rw [← hA] at Y
  have hvm : s'.vm = s.vm := by rw [hA]; rfl
  have hhp : s'.heap = H := by rw [hA]; exact hT
  have hW0 : s.WarmedH s'.vm := by rw [hvm]; exact State.WarmedH.refl s
  have hat' : ∀ w ∈ vx_atS own ic cls names, w.before args s' = true := fun w hw => vx_ot_at hW0 hvm.symm (hgood w (List.mem_cons_of_mem _ (List.mem_cons_of_mem _ hw))) (hat w hw)
  have hk' : (Cond.classLink own ik cls).before args s' = true := vx_ot_at hW0 hvm.symm (hgood _ List.mem_cons_self) hk
  have hini' : (Cond.initialized cls).before args s' = true := vx_ot_at hW0 hvm.symm (hgood _ (List.mem_cons_of_mem _ List.mem_cons_self)) hini
  have hU' : vx_Zq Bundle.tN "UNASSIGNED_STACK" Bundle.steD A s' s'.heap := by rw [hhp]; exact vx_Zq.moved hW0.alike (hU.kept hS.2.1)
  have hN' : vx_Zq Bundle.tN "SUPPRESSED_SENTINEL" Bundle.listD A s' s'.heap := by rw [hhp]; exact vx_Zq.moved hW0.alike (hN.kept hS.2.1)
  have h : ∀ w ∈ Bundle.ownAtoms own ic cls names, w.before args s' = true := vx_own hat' (vx_isRefq hU'.1) (vx_isRefq hN'.1) hU'.2.word hN'.2.word
  have hown' : s'.vm.findClass own = some m.cls := by rw [hvm]; exact hown
  have hins : (Cond.instantiable cls 6).before args s' = true := h _ (by simp [Bundle.ownAtoms])
  obtain ⟨vm₁, cX, kX, hfX, hkX, -, -, X₁, st1⟩ := Y.newCold hexec (own := own) (C := cls) (index := ik) (n := 6) hown' hk' hins hini'
    (g := F0 m pc ls rest) rfl (by rw [hb]; exact d0) (Nat.le_refl _) (Nat.le_refl _)
  generalize hT1 : (T.setVm vm₁).pushCell { cls := cX, slots := kX.instanceTypes.map defaultValue, vm := .none } = T1 at X₁ st1
  have hcat : (Value.ref T.heap.size).category = 1 := rfl
  have hcellA : T1.heap[T.heap.size]? = some (freshCell cX kX) := by rw [← hT1]; exact State.heap_pushCell_size _ _
  have d3' : decode c.code (pc + 3) = .ok (.dup, 1) := by rw [hb]; exact d3
  have d4' : decode c.code (pc + 4) = .ok (.ldc_w is, 3) := by rw [hb]; exact d4
  have hstr' : vk_R own is text sa s' := vk_R.warm hW0 hstr
  obtain ⟨U, hsteps, hrun, hend, hW, hsame, ce, hce, hO⟩ := X₁.ctorThrowS hexec htr (own := own) (cls := cls) (names := names) (ic := ic) hown' hcls hnames h (fun x hx => nomatch hx) hfX hkX hcellA (by rw [hhp, hT]; exact Nat.le_refl _) (msg := .ref sa) rfl
    (g := { method := m, pc := pc + 7, locals := ls, stack := .ref sa :: .ref T.heap.size :: .ref T.heap.size :: rest, locked := none }) rfl hsize rfl rfl (rest := rest) rfl
    (by rw [hb]; exact d7) (by rw [hb]; exact d10) hout hRframes (by simp only [List.map_cons, List.sum_cons, hcat]; omega) hlocks
  obtain ⟨f1, f2⟩ := vx_frame hsame
  rw [hhp] at f1 f2
  have hWs : s.WarmedH U.vm := State.WarmedH.trans hW0 hW
  have hcl : s.vm.findClass cls = some ce.cls := by
    have h9 := hO.cls
    rw [hvm] at h9
    exact h9
  have hall : s.sameButNew ({ U with vm := s.vm } : State) locs mc ms := by
    subst hA
    obtain ⟨e1, e2⟩ := hsame
    rw [State.setFrames_setFrames] at e1
    have h2 : (T.setVm s.vm).sameButNew ({ U with vm := s.vm } : State) [] (0 + 1) (0 + 6) := ⟨e1, e2⟩
    have h3 := X.same.trans h2
    rw [List.append_nil] at h3
    exact h3.mono hc hs
  refine ⟨U, ?_, .threw T.heap.size, hrun, hend, Or.inr ⟨T.heap.size, rfl, cls, ce, locs, hx U hWs.alike f1 (fun q hq => f2 q hq (fun z hz => nomatch hz)), hce, hO.vm, hcl, hWs, hall, hf⟩⟩
  refine st1 _ ?_
  show Steps p.tables e below (T1.setTop { method := m, pc := pc + 3, locals := ls, stack := .ref T.heap.size :: rest, locked := none }) _
  jvm_step X₁.here [X₁.here.top, hexec, d3', Value.category]
  exact X₁.ldcStringW hexec (own := own) (text := text) (index := is) (a := sa) hown' hstr'.1 hstr'.2
    (g := { method := m, pc := pc + 4, locals := ls, stack := .ref T.heap.size :: .ref T.heap.size :: rest, locked := none }) rfl d4' _ hsteps
end Ends
section Bodies
variable {l : Launch}
theorem vx_ofW {y : MethodName} {ws ws' : List Cond} {rm : Room} {Pc : Array Value → State → Prop} {Qc : Array Value → State → Outcome → State → Prop} {XC : String → State → State → Prop} {mc ms : Nat} {free : Addr → Prop} {cc : ByteArray} {maxL : Nat} {ret : Option FieldType}
    (hy : plainName y.cls = true) (hw : ws = Cond.code y cc maxL ret :: ws')
    (body : ∀ p e s m args below meth c s₁, BodyLoose p l y (headSpec ws rm) cc maxL ret e s m args below meth c s₁ → c.maxLocals = maxL → (∀ x ∈ c.exceptionTable.toList, False) → Pc args s →
      W p l e (headSpec ws rm).room s m args below meth c s.heap [] 0 0 (vx_MQ below Qc XC args s mc ms free) (entryFrame m args maxL)) : vx_Met l y ws rm Pc Qc XC mc ms free := by
  refine MetFree.of_bodyS (code := cc) (maxLocals := maxL) (ret := ret) hy ?_ ?_
  · intro args s m h hn
    obtain ⟨meth, c, h1, h2, h3, h4, h5, h6, -, -⟩ := Cond.code_spec hn (atoms_spec (ws := ws) h _ (by rw [hw]; exact List.mem_cons_self))
    exact ⟨meth, c, h1, h2, h3, h4, h5, h6⟩
  · intro p e s m args below meth c s₁ B hml hP _
    have hh0 : s₁.heap = s.heap := by rw [B.state]; rfl
    have ht : ∀ x ∈ c.exceptionTable.toList, False := by
      obtain ⟨meth9, c9, h1, h2, -, -, -, -, h7, -⟩ := Cond.code_spec B.named (atoms_spec (ws := ws) B.pre _ (by rw [hw]; exact List.mem_cons_self))
      cases Option.some.inj (h1.symm.trans B.method)
      cases Option.some.inj (h2.symm.trans (Stand.of_body B).code)
      intro x hx
      rw [Array.isEmpty_iff.mp h7] at hx
      cases hx
    obtain ⟨t, a1, o, b1, b2, b3⟩ := body p e s m args below meth c s₁ B hml ht hP s₁ hh0 (Stand.of_body B)
    exact ⟨t, o, a1, b1, b2, b3⟩
/-- the table of a body with handlers -/
theorem vx_table {p : Program} {x y : MethodName} {S : Spec} {cc bytes : ByteArray} {maxL maxL' : Nat} {ret ret' : Option FieldType} {e : Env} {s s₁ : State} {m : MethodId} {args : Array Value} {below : List Frame} {meth : Method} {c : Code} {hh : List (Nat × Nat × Nat × Nat)}
    (B : BodyLoose p l y S cc maxL ret e s m args below meth c s₁) (h : (Cond.codeWith y bytes maxL' ret' hh).before args s = true) : c.exceptionTable.toList = tableOf hh := by
  obtain ⟨m9, meth9, c9, hn9, h1, h2, -, -, h6, -⟩ := Cond.codeWith_spec h
  cases Option.some.inj (hn9.symm.trans B.named)
  cases Option.some.inj (h1.symm.trans B.method)
  cases Option.some.inj (h2.symm.trans (Stand.of_body B).code)
  rw [← h6, table_eq]
end Bodies
end VXA
/-! ===== END ===== -/
/-! ===== BEGIN a static call of a method with an exception table ===== -/
section VXS
variable {p : Program} {l : Launch} {e : Env} {R : Room} {s : State} {m : MethodId} {args : Array Value} {below : List Frame} {meth : Method} {c : Code} {T : State} {H : Heap} {locs : List Loc} {cells slots : Nat}
abbrev vx_CSW (R : Room) (s : State) (args : Array Value) (own : String) (index : Nat) (y : MethodName) (bytes : ByteArray) (maxL : Nat) (ret : Option FieldType) (hh : List (Nat × Nat × Nat × Nat)) (ws : List Cond) (rm : Room) (mc ms n : Nat) : Prop :=
  (rm.cells = mc ∧ rm.slots = ms ∧ rm.frames + 1 ≤ R.frames ∧ 8 + (maxL + 11) + rm.locals ≤ R.locals ∧ (∀ w ∈ ws, ∀ (a' : Array Value) (U : State), s.WarmedH U.vm → w.before a' U = true) ∧ Cond.codeWith y bytes maxL ret hh ∈ ws) ∧
  (Cond.codeWith y bytes maxL ret hh).before args s = true ∧ (Cond.initialized y.cls).before args s = true ∧ (y.cls ≠ "java/lang/invoke/MethodHandle" ∧ y.cls ≠ "java/lang/invoke/VarHandle") ∧
  (∀ sig, parseMethodDescriptor y.desc = some sig → n = sig.parameters.length) ∧ (Cond.methodLink own index y).before args s = true ∧ (Cond.static y).before args s = true
theorem vx_cwSW {own : String} {index maxL mc ms : Nat} {y : MethodName} {bytes : ByteArray} {ret : Option FieldType} {hh : List (Nat × Nat × Nat × Nat)} {Ts ws ws' : List Cond} {rm : Room} (n : Nat) (ht : ∀ w ∈ Ts, w.before args s = true) (hT : GoodIn Ts (va_wsS own index y ws)) (hw : ws = Cond.codeWith y bytes maxL ret hh :: ws') (hrc : rm.cells = mc) (hrs : rm.slots = ms)
    (hd : y.cls ≠ "java/lang/invoke/MethodHandle" ∧ y.cls ≠ "java/lang/invoke/VarHandle" ∧ (parseMethodDescriptor y.desc).map (fun d => d.parameters.length) = some n) (hR : rm.frames + 1 ≤ R.frames ∧ 8 + (maxL + 11) + rm.locals ≤ R.locals) :
    vx_CSW R s args own index y bytes maxL ret hh ws rm mc ms n := by
  have ok : ∀ w ∈ va_wsS own index y ws, w.before args s = true := fun w h => ht w (hT w h).1
  have hG : GoodIn Ts ws := fun w h => hT w (by unfold va_wsS; exact List.mem_append_right _ h)
  have hc : Cond.codeWith y bytes maxL ret hh ∈ ws := by rw [hw]; exact List.mem_cons_self
  refine ⟨⟨hrc, hrs, hR.1, hR.2, pay_in ht hG, hc⟩, ht _ (hG _ hc).1, ok _ (by simp [va_wsS]), ⟨hd.1, hd.2.1⟩, fun sig h => ?_, ok _ (by simp [va_wsS]), ok _ (by simp [va_wsS])⟩
  have h2 := hd.2.2
  rw [h] at h2
  exact (Option.some.inj h2).symm
theorem vx_callSW (X : Stand p l e R s m args below meth c T locs cells slots) (hexec : p.tables.exec = Jvm.exec) {own : String} {index : Nat} {y : MethodName} {bytes : ByteArray} {maxL : Nat} {ret : Option FieldType} {hh : List (Nat × Nat × Nat × Nat)}
    (hown : s.vm.findClass own = some m.cls) (hlink : (Cond.methodLink own index y).before args s = true) (hstat : (Cond.static y).before args s = true) (hinit : (Cond.initialized y.cls).before args s = true)
    (hcode : (Cond.codeWith y bytes maxL ret hh).before args s = true) (hy : y.cls ≠ "java/lang/invoke/MethodHandle" ∧ y.cls ≠ "java/lang/invoke/VarHandle")
    {W9 : Nat} {Pre : Pt → Array Value → Prop} {Post : Pt → Array Value → Option Value → Pt → Prop} (hK : Back l R p e below s args y 3 W9 Pre Post)
    {g : JFrame} (hg : g.method = m) (hsize : g.locals.size = c.maxLocals) {argsL rest : List Value} (hlen : ∀ sig, parseMethodDescriptor y.desc = some sig → argsL.length = sig.parameters.length)
    (hstack : g.stack = argsL.reverse ++ rest) (hW : 2 * g.monitorRoom + (rest.map fun v => v.category).sum ≤ W9) (hdg : decode c.code g.pc = .ok (.invokestatic index, 3))
    (hpre : ∀ vm₁, s.WarmedH vm₁ → Pre ⟨T.setVm vm₁, locs, cells, slots⟩ argsL.toArray) :
    ∃ (v : Option Value) (vm₁ : Vm) (B : Pt), s.WarmedH vm₁ ∧ Stand p l e R s m args below meth c B.U B.locs B.cells B.slots ∧ Post ⟨T.setVm vm₁, locs, cells, slots⟩ argsL.toArray v B ∧
      ∀ target, Steps p.tables e below (B.U.setTop { g with pc := g.pc + 3, stack := v.toList ++ rest }) target → Steps p.tables e below (T.setTop g) target := by
  obtain ⟨mk, methM, cM, hnamed, hmethM, -, -, -, -, -, -, hsigM⟩ := Cond.codeWith_spec hcode
  have hstatic : methM.isStatic = true := Cond.static_spec hnamed hmethM hstat
  obtain ⟨kP, hkP, -⟩ := className_of_methodNamed hnamed
  have hinitP : kP.init = .initialized := Cond.initialized_spec (findClass_of_methodNamed hnamed) hkP hinit
  obtain ⟨vm₁, X₁, hstep₁⟩ := X.invokestatic hexec hown hlink hnamed hmethM hstatic hkP hinitP hy (g := g) hg (argsL := argsL) (rest := rest) (hlen _ hsigM) hstack hdg
  obtain ⟨v, B, X', hpost, hsteps⟩ := hK m meth c ⟨T.setVm vm₁, locs, cells, slots⟩ { g with stack := rest } (.invokestatic index) mk argsL.toArray X₁ hg hsize hdg hW (X₁.named hnamed) (hpre vm₁ X₁.warmed)
  exact ⟨v, vm₁, B, X₁.warmed, X', hpost, fun target h => hstep₁ _ fun acts => by rw [doInvoke_state]; exact hsteps.trans h⟩
theorem vx_runSW {y : MethodName} {bytes cc : ByteArray} {maxL nL mc ms n index : Nat} {ret : Option FieldType} {hh : List (Nat × Nat × Nat × Nat)} {ws : List Cond} {rm : Room} {Pc : Array Value → State → Prop} {Qc : Array Value → State → Outcome → State → Prop} {free : Addr → Prop} {Ts : List Cond} {own : String} {As rest : List Value} {g : JFrame}
    (S : CallFix p m c cc nL s args Ts own) (hM : Met l y ws rm Pc Qc mc ms free) (cw : vx_CSW R s args own index y bytes maxL ret hh ws rm mc ms n) (hp : PreS s H Pc As)
    (hg : g.method = m) (hn : As.length = n) (hsize : g.locals.size = nL) (hstack : g.stack = As.reverse ++ rest) (hW : 2 * g.monitorRoom + (rest.map fun v => v.category).sum ≤ 8) (hdg : decode cc g.pc = .ok (.invokestatic index, 3)) (hf : cells + mc ≤ R.cells ∧ slots + ms ≤ R.slots) :
    va_Run p l e R s m args below meth c H locs cells slots mc ms g rest (Qc As.toArray) (free) := by
  obtain ⟨⟨hrc, hrs, hfr, hlo, hws, hcw⟩, hcode, hini, hy, hlen, hl, hstt⟩ := cw
  have hK : Back l R p e below s args y 3 8 (PreOf R mc ms Pc) (PostOf Qc mc ms free) := va_backW (hh := hh) (bytes := bytes) (maxL := maxL) (ret := ret) hM hp.1 hrc hrs hfr hlo hws hcw (fun a' U hW => word_at hW (Or.inl (by first | rfl | simp [Cond.onTables, Cond.keeps, Cond.steady])) hini)
  obtain ⟨hx, hb, hml, ho, -⟩ := S
  intro T hT X
  obtain ⟨v, vm₁, ⟨U', l2, c2, s2⟩, hW₁, X', ⟨g', mk, t, L, e1, e2, hq, h1, hL, h2, h3⟩, st⟩ := vx_callSW X hx (hh := hh) (bytes := bytes) (maxL := maxL) (ret := ret) ho hl hstt hini hcode hy hK hg (hsize.trans hml.symm) (argsL := As) (rest := rest) (fun sig h => hn.trans (hlen sig h)) hstack hW (by rw [hb]; exact hdg)
    (fun vm₁ hW₁ => ⟨hf.1, hf.2, hp.2 (T.setVm vm₁) hT hW₁⟩)
  dsimp only [Pt.U, Pt.locs, Pt.cells, Pt.slots] at X' e1 e2 h1 h2 h3 st
  subst h1; subst h2; subst h3
  exact ⟨v, (T.setVm vm₁).calling g' mk As.toArray, t, U', L, hT, X', hL, e1, e2, hq, st⟩
/-- a thing of a world lies in the heap -/
theorem vx_lt {D : va_G} {cl : List vw_C} {ws : va_W} {H1 : Heap} (h : va_P D cl ws H1) {k : Nat} {q : Nat × va_E} (hk : ws[k]? = some q) : q.1 < H1.size := (h k q hk).lt
end VXS
/-! ===== END ===== -/
/-! ===== BEGIN methods with a table of their own: called by a name, returning or throwing ===== -/
section VXH
/-! vx_backW, vx_callVX, vx_callSX, vx_callVW, vx_runVW, vx_runVX, vx_runSX, vx_ofWH follow the same proofs as their sisters above (Free/Laws.lean, Shelf42/LK1.lean); vx_outP calls Shelf42/NT130.lean (outThrough). -/
section
variable {l : Launch} {R : Room} {p : Program} {e : Env} {below : List Frame} {s : State} {sargs : Array Value} {y : MethodName} {len W9 : Nat}
theorem vx_backW {ws : List Cond} {rm : Room} {Pc : Array Value → State → Prop} {Qc : Array Value → State → Outcome → State → Prop} {XC : String → State → State → Prop} {mc ms : Nat} {free : Addr → Prop} {bytes : ByteArray} {maxL : Nat} {ret : Option FieldType} {hh : List (Nat × Nat × Nat × Nat)}
    (hM : vx_Met l y ws rm Pc Qc XC mc ms free) (hblind : FrameBlind Pc) (hrc : rm.cells = mc) (hrs : rm.slots = ms)
    (hframes : rm.frames + 1 ≤ R.frames) (hlocals : W9 + (maxL + 11) + rm.locals ≤ R.locals)
    (hws : ∀ w ∈ ws, ∀ a' U, s.WarmedH U.vm → w.before a' U = true) (hcode : Cond.codeWith y bytes maxL ret hh ∈ ws) (hinit : ∀ a' U, s.WarmedH U.vm → (Cond.initialized y.cls).before a' U = true) :
    vx_Back l R p e below s sargs y len W9 (PreOf R mc ms Pc) (PostOf Qc mc ms free) (vx_Post XC mc ms free) := by
  intro m meth c A g ig mk a X hg hsize hdg hW hn hp
  have h1 : (headSpec ws rm).pre.before a A.U = true := atoms_intro fun w hw => hws w hw _ _ X.warmed
  have h2 : (Cond.codeWith y bytes maxL ret hh).before a A.U = true := hws _ hcode _ _ X.warmed
  have h3 : (Cond.initialized y.cls).before a A.U = true := hinit _ _ X.warmed
  have h4 : A.cells + (headSpec ws rm).room.cells ≤ R.cells := by rw [show (headSpec ws rm).room.cells = mc from hrc]; exact hp.1
  have h5 : A.slots + (headSpec ws rm).room.slots ≤ R.slots := by rw [show (headSpec ws rm).room.slots = ms from hrs]; exact hp.2.1
  have hPc : Pc a (A.U.calling g mk a) := hblind _ _ _ _ hp.2.2
  obtain ⟨U, Ls, c0, s0⟩ := A
  dsimp only [Pt.U, Pt.locs, Pt.cells, Pt.slots] at h1 h2 h3 h4 h5 X hn hPc ⊢
  obtain ⟨m9, methY, cY, hn9, hmY, hcY, -, hlY, -⟩ := Cond.codeWith_spec h2
  cases Option.some.inj (hn9.symm.trans hn)
  obtain ⟨kY, hkY, -⟩ := className_of_methodNamed hn
  have hinitY : kY.init = .initialized := Cond.initialized_spec (findClass_of_methodNamed hn) hkY h3
  have h : At U g.method c below := by rw [hg]; exact X.here
  have hlocals9 : W9 + (maxL + 11) + (headSpec ws rm).room.locals ≤ R.locals := hlocals
  have happ : (headSpec ws rm).appliesLoose y e.platform (U.calling g mk a) = true :=
    Spec.appliesLoose_calling (g := g) h hdg hn hkY hinitY
      (X.room_calling (g := g) (R' := (headSpec ws rm).room) hsize hmY hcY hframes (by rw [hlY]; omega) h4 h5) h1
  obtain ⟨mid, hmid⟩ := h.above
  have hfr : (U.setTop g).frames = (.java g :: mid) ++ below := by rw [State.frames_setTop' g h.top, hmid]; rfl
  obtain ⟨o, s₂, hsteps, -, hend, hq⟩ := Steps.callFree hM p X.admits X.cas X.clock (acts := []) hfr happ hPc trivial
  have hq' : vx_Q Qc XC mc ms free a (U.calling g mk a) o s₂ := hq
  rw [State.frames_setTop' g h.top] at hend
  obtain ⟨g₀, hg0⟩ := Option.isSome_iff_exists.mp h.top
  obtain ⟨r, hr⟩ := State.topJava?_eq_some.mp hg0
  have hr' : (({ U with heap := s₂.heap, slotsUsed := s₂.slotsUsed } : State).setVm s₂.vm).frames = .java g₀ :: r := hr
  rcases hq' with ⟨hqc, L, hfe, hL⟩ | ⟨q, rfl, E, ce, L, hx, hce, hcv, hcl, hW₂, hsm, hL⟩
  · obtain ⟨⟨v, rfl⟩, hW₂, e2, q2, q3, q4, q5, q6⟩ := id hfe
    have e3 : s₂ = ({ (U.calling g mk a).setFrames s₂.frames with heap := s₂.heap, slotsUsed := s₂.slotsUsed } : State).setVm s₂.vm := by
      have : s₂ = ({ s₂ with vm := (U.calling g mk a).vm } : State).setVm s₂.vm := rfl
      rw [e2] at this
      exact this
    obtain ⟨c₂, i₂, len₂, hc₂, hd₂, hf₂⟩ := hend
    have hW' : U.WarmedH s₂.vm := hW₂
    have hcc : c₂ = c := by
      have h1 : s₂.code? g.method = U.code? g.method := by
        rw [State.code?_eq, State.code?_eq, hW'.alike.method?]
      exact Option.some.inj (hc₂.symm.trans (h1.trans h.code))
    subst hcc
    have hlen : len₂ = len := by rw [hdg] at hd₂; cases hd₂; rfl
    subst hlen
    have hs₂ : s₂ = (({ U with heap := s₂.heap, slotsUsed := s₂.slotsUsed } : State).setVm s₂.vm).setTop { g with pc := g.pc + len₂, stack := v.toList ++ g.stack } := by
      refine e3.trans ?_
      rw [hf₂, State.calling_eq h.top, State.setFrames_setFrames, State.setTop_of_frames _ hr', hr]
      rfl
    have hsame : U.sameButNew ({ U with heap := s₂.heap, slotsUsed := s₂.slotsUsed } : State) L mc ms := by
      refine ⟨?_, q2, q3, q4, q5, q6⟩
      obtain ⟨t, ht, -⟩ := State.frames_cons hr
      show ({ U with heap := s₂.heap, slotsUsed := s₂.slotsUsed } : State) = { U.setFrames U.frames with heap := s₂.heap, slotsUsed := s₂.slotsUsed }
      rw [State.setFrames_self ht]
    subst hg
    refine Or.inl ⟨v, ⟨(({ U with heap := s₂.heap, slotsUsed := s₂.slotsUsed } : State).setVm s₂.vm), Ls ++ L, c0 + mc, s0 + ms⟩,
      ⟨X.admits, X.cas, X.clock, X.frames, X.room, X.hears, X.method, X.code, (X.here.setHeapUsed s₂.heap s₂.slotsUsed).setVm hW'.alike, X.tail, State.WarmedH.trans X.warmed hW', X.limits, X.bytes, X.same.trans (hsame.setVm s.vm)⟩,
      ⟨g, mk, s₂, L, rfl, rfl, hqc, rfl, hL, rfl, rfl⟩, ?_⟩
    show Steps p.tables e below _ ((({ U with heap := s₂.heap, slotsUsed := s₂.slotsUsed } : State).setVm s₂.vm).setTop { g with pc := g.pc + len₂, stack := v.toList ++ g.stack })
    rw [← hs₂]
    exact hsteps
  · obtain ⟨e2, q2, q3, q4, q5, q6⟩ := id hsm
    have e3 : s₂ = ({ (U.calling g mk a).setFrames s₂.frames with heap := s₂.heap, slotsUsed := s₂.slotsUsed } : State).setVm s₂.vm := by
      have : s₂ = ({ s₂ with vm := (U.calling g mk a).vm } : State).setVm s₂.vm := rfl
      rw [e2] at this
      exact this
    have hf₂ : s₂.frames = .throwing q :: .java g :: U.frames.tail := hend
    have hW' : U.WarmedH s₂.vm := hW₂
    have hs₂ : s₂ = ((({ U with heap := s₂.heap, slotsUsed := s₂.slotsUsed } : State).setVm s₂.vm).setTop g).pushFrame (.throwing q) := by
      refine e3.trans ?_
      rw [hf₂, State.calling_eq h.top, State.setFrames_setFrames, State.pushFrame, State.frames_setTop _ hr', State.setTop_of_frames _ hr', State.setFrames_setFrames, hr]
      rfl
    have hsame : U.sameButNew ({ U with heap := s₂.heap, slotsUsed := s₂.slotsUsed } : State) L mc ms := by
      refine ⟨?_, q2, q3, q4, q5, q6⟩
      obtain ⟨t, ht, -⟩ := State.frames_cons hr
      show ({ U with heap := s₂.heap, slotsUsed := s₂.slotsUsed } : State) = { U.setFrames U.frames with heap := s₂.heap, slotsUsed := s₂.slotsUsed }
      rw [State.setFrames_self ht]
    subst hg
    refine Or.inr ⟨q, ⟨(({ U with heap := s₂.heap, slotsUsed := s₂.slotsUsed } : State).setVm s₂.vm), Ls ++ L, c0 + mc, s0 + ms⟩,
      ⟨X.admits, X.cas, X.clock, X.frames, X.room, X.hears, X.method, X.code, (X.here.setHeapUsed s₂.heap s₂.slotsUsed).setVm hW'.alike, X.tail, State.WarmedH.trans X.warmed hW', X.limits, X.bytes, X.same.trans (hsame.setVm s.vm)⟩,
      ⟨g, mk, s₂, L, E, ce, rfl, rfl, hx, hce, hcv, hcl, rfl, hL, rfl, rfl⟩, ?_⟩
    show Steps p.tables e below _ (((({ U with heap := s₂.heap, slotsUsed := s₂.slotsUsed } : State).setVm s₂.vm).setTop g).pushFrame (.throwing q))
    rw [← hs₂]
    exact hsteps
end
variable {p : Program} {l : Launch} {e : Env} {R : Room} {s : State} {m : MethodId} {args : Array Value} {below : List Frame} {meth : Method} {c : Code} {T : State} {H : Heap} {locs : List Loc} {cells slots : Nat}
theorem vx_callVX (X : Stand p l e R s m args below meth c T locs cells slots) (hexec : p.tables.exec = Jvm.exec) {own C : String} {index : Nat} {y : MethodName} {bytes : ByteArray} {maxL : Nat} {ret : Option FieldType} {hh : List (Nat × Nat × Nat × Nat)}
    (hown : s.vm.findClass own = some m.cls) (hlink : (Cond.methodLink own index y).before args s = true) (hinst : (Cond.instanceMethod y).before args s = true) (hsel : (Cond.selects C y y).before args s = true)
    (hcode : (Cond.codeWith y bytes maxL ret hh).before args s = true) (hy : y.cls ≠ "java/lang/invoke/MethodHandle" ∧ y.cls ≠ "java/lang/invoke/VarHandle")
    {W9 : Nat} {Pre : Pt → Array Value → Prop} {Post : Pt → Array Value → Option Value → Pt → Prop} {PostX : Pt → Array Value → Addr → Pt → Prop} (hK : vx_Back l R p e below s args y 3 W9 Pre Post PostX)
    {b : Addr} {cellB : Cell} (hcell : T.heap[b]? = some cellB) (hobj : cellB.vm.isStatics = false) (hcls : s.vm.findClass C = some cellB.cls)
    {g : JFrame} (hg : g.method = m) (hsize : g.locals.size = c.maxLocals) {argsL rest : List Value} (hlen : ∀ sig, parseMethodDescriptor y.desc = some sig → argsL.length = sig.parameters.length)
    (hstack : g.stack = argsL.reverse ++ .ref b :: rest) (hW : 2 * g.monitorRoom + (rest.map fun v => v.category).sum ≤ W9) (hdg : decode c.code g.pc = .ok (.invokevirtual index, 3))
    (hpre : ∀ vm₁, s.WarmedH vm₁ → Pre ⟨T.setVm vm₁, locs, cells, slots⟩ (Value.ref b :: argsL).toArray) :
    (∃ (v : Option Value) (vm₁ : Vm) (B : Pt), s.WarmedH vm₁ ∧ Stand p l e R s m args below meth c B.U B.locs B.cells B.slots ∧ Post ⟨T.setVm vm₁, locs, cells, slots⟩ (Value.ref b :: argsL).toArray v B ∧
      ∀ target, Steps p.tables e below (B.U.setTop { g with pc := g.pc + 3, stack := v.toList ++ rest }) target → Steps p.tables e below (T.setTop g) target) ∨
    (∃ (q : Addr) (vm₁ : Vm) (B : Pt), s.WarmedH vm₁ ∧ Stand p l e R s m args below meth c B.U B.locs B.cells B.slots ∧ PostX ⟨T.setVm vm₁, locs, cells, slots⟩ (Value.ref b :: argsL).toArray q B ∧
      Steps p.tables e below (T.setTop g) ((B.U.setTop { g with stack := rest }).pushFrame (.throwing q))) := by
  obtain ⟨mk, methM, hnamed, hmethM, hstM, habM⟩ := Cond.instanceMethod_spec hinst
  obtain ⟨m8, methM', cM, hn8, hmethM', -, -, -, -, -, -, hsigM⟩ := Cond.codeWith_spec hcode
  cases Option.some.inj (hn8.symm.trans hnamed)
  cases hmethM.symm.trans hmethM'
  obtain ⟨c2, r2, m2, q1, q2, q3, q4, kP, hkP, hkPi⟩ := Cond.selects_spec hsel
  cases hcls.symm.trans q1
  cases (State.methodFound?_of_named hnamed hy).symm.trans q2
  cases hnamed.symm.trans q3
  have hselP : selectMethod e.platform s.vm cellB.cls mk = .method mk := by rw [Launch.admits_selectMethod X.admits]; exact q4
  obtain ⟨vm₁, X₁, hstep₁⟩ := X.invokevirtual hexec hown hlink hnamed hmethM hstM hkP hkPi hy (a := b) (cell := cellB) hcell
    (fun z h => by rw [h] at hobj; cases hobj) hselP hmethM habM hkP hkPi (g := g) hg (argsL := argsL) (rest := rest) (hlen _ hsigM) hstack hdg
  rcases hK m meth c ⟨T.setVm vm₁, locs, cells, slots⟩ { g with stack := rest } (.invokevirtual index) mk (Value.ref b :: argsL).toArray X₁ hg hsize hdg hW (X₁.named hnamed) (hpre vm₁ X₁.warmed) with ⟨v, B, X', hpost, hsteps⟩ | ⟨q, B, X', hpost, hsteps⟩
  · exact Or.inl ⟨v, vm₁, B, X₁.warmed, X', hpost, fun target h => hstep₁ _ fun acts => by rw [doInvoke_state]; exact hsteps.trans h⟩
  · exact Or.inr ⟨q, vm₁, B, X₁.warmed, X', hpost, hstep₁ _ fun acts => by rw [doInvoke_state]; exact hsteps⟩
theorem vx_callSX (X : Stand p l e R s m args below meth c T locs cells slots) (hexec : p.tables.exec = Jvm.exec) {own : String} {index : Nat} {y : MethodName} {bytes : ByteArray} {maxL : Nat} {ret : Option FieldType} {hh : List (Nat × Nat × Nat × Nat)}
    (hown : s.vm.findClass own = some m.cls) (hlink : (Cond.methodLink own index y).before args s = true) (hstat : (Cond.static y).before args s = true) (hinit : (Cond.initialized y.cls).before args s = true)
    (hcode : (Cond.codeWith y bytes maxL ret hh).before args s = true) (hy : y.cls ≠ "java/lang/invoke/MethodHandle" ∧ y.cls ≠ "java/lang/invoke/VarHandle")
    {W9 : Nat} {Pre : Pt → Array Value → Prop} {Post : Pt → Array Value → Option Value → Pt → Prop} {PostX : Pt → Array Value → Addr → Pt → Prop} (hK : vx_Back l R p e below s args y 3 W9 Pre Post PostX)
    {g : JFrame} (hg : g.method = m) (hsize : g.locals.size = c.maxLocals) {argsL rest : List Value} (hlen : ∀ sig, parseMethodDescriptor y.desc = some sig → argsL.length = sig.parameters.length)
    (hstack : g.stack = argsL.reverse ++ rest) (hW : 2 * g.monitorRoom + (rest.map fun v => v.category).sum ≤ W9) (hdg : decode c.code g.pc = .ok (.invokestatic index, 3))
    (hpre : ∀ vm₁, s.WarmedH vm₁ → Pre ⟨T.setVm vm₁, locs, cells, slots⟩ argsL.toArray) :
    (∃ (v : Option Value) (vm₁ : Vm) (B : Pt), s.WarmedH vm₁ ∧ Stand p l e R s m args below meth c B.U B.locs B.cells B.slots ∧ Post ⟨T.setVm vm₁, locs, cells, slots⟩ argsL.toArray v B ∧
      ∀ target, Steps p.tables e below (B.U.setTop { g with pc := g.pc + 3, stack := v.toList ++ rest }) target → Steps p.tables e below (T.setTop g) target) ∨
    (∃ (q : Addr) (vm₁ : Vm) (B : Pt), s.WarmedH vm₁ ∧ Stand p l e R s m args below meth c B.U B.locs B.cells B.slots ∧ PostX ⟨T.setVm vm₁, locs, cells, slots⟩ argsL.toArray q B ∧
      Steps p.tables e below (T.setTop g) ((B.U.setTop { g with stack := rest }).pushFrame (.throwing q))) := by
  obtain ⟨mk, methM, cM, hnamed, hmethM, -, -, -, -, -, -, hsigM⟩ := Cond.codeWith_spec hcode
  have hstatic : methM.isStatic = true := Cond.static_spec hnamed hmethM hstat
  obtain ⟨kP, hkP, -⟩ := className_of_methodNamed hnamed
  have hinitP : kP.init = .initialized := Cond.initialized_spec (findClass_of_methodNamed hnamed) hkP hinit
  obtain ⟨vm₁, X₁, hstep₁⟩ := X.invokestatic hexec hown hlink hnamed hmethM hstatic hkP hinitP hy (g := g) hg (argsL := argsL) (rest := rest) (hlen _ hsigM) hstack hdg
  rcases hK m meth c ⟨T.setVm vm₁, locs, cells, slots⟩ { g with stack := rest } (.invokestatic index) mk argsL.toArray X₁ hg hsize hdg hW (X₁.named hnamed) (hpre vm₁ X₁.warmed) with ⟨v, B, X', hpost, hsteps⟩ | ⟨q, B, X', hpost, hsteps⟩
  · exact Or.inl ⟨v, vm₁, B, X₁.warmed, X', hpost, fun target h => hstep₁ _ fun acts => by rw [doInvoke_state]; exact hsteps.trans h⟩
  · exact Or.inr ⟨q, vm₁, B, X₁.warmed, X', hpost, hstep₁ _ fun acts => by rw [doInvoke_state]; exact hsteps⟩
theorem vx_callVW (X : Stand p l e R s m args below meth c T locs cells slots) (hexec : p.tables.exec = Jvm.exec) {own C : String} {index : Nat} {y : MethodName} {bytes : ByteArray} {maxL : Nat} {ret : Option FieldType} {hh : List (Nat × Nat × Nat × Nat)}
    (hown : s.vm.findClass own = some m.cls) (hlink : (Cond.methodLink own index y).before args s = true) (hinst : (Cond.instanceMethod y).before args s = true) (hsel : (Cond.selects C y y).before args s = true)
    (hcode : (Cond.codeWith y bytes maxL ret hh).before args s = true) (hy : y.cls ≠ "java/lang/invoke/MethodHandle" ∧ y.cls ≠ "java/lang/invoke/VarHandle")
    {W9 : Nat} {Pre : Pt → Array Value → Prop} {Post : Pt → Array Value → Option Value → Pt → Prop} (hK : Back l R p e below s args y 3 W9 Pre Post)
    {b : Addr} {cellB : Cell} (hcell : T.heap[b]? = some cellB) (hobj : cellB.vm.isStatics = false) (hcls : s.vm.findClass C = some cellB.cls)
    {g : JFrame} (hg : g.method = m) (hsize : g.locals.size = c.maxLocals) {argsL rest : List Value} (hlen : ∀ sig, parseMethodDescriptor y.desc = some sig → argsL.length = sig.parameters.length)
    (hstack : g.stack = argsL.reverse ++ .ref b :: rest) (hW : 2 * g.monitorRoom + (rest.map fun v => v.category).sum ≤ W9) (hdg : decode c.code g.pc = .ok (.invokevirtual index, 3))
    (hpre : ∀ vm₁, s.WarmedH vm₁ → Pre ⟨T.setVm vm₁, locs, cells, slots⟩ (Value.ref b :: argsL).toArray) :
    ∃ (v : Option Value) (vm₁ : Vm) (B : Pt), s.WarmedH vm₁ ∧ Stand p l e R s m args below meth c B.U B.locs B.cells B.slots ∧ Post ⟨T.setVm vm₁, locs, cells, slots⟩ (Value.ref b :: argsL).toArray v B ∧
      ∀ target, Steps p.tables e below (B.U.setTop { g with pc := g.pc + 3, stack := v.toList ++ rest }) target → Steps p.tables e below (T.setTop g) target := by
  obtain ⟨mk, methM, hnamed, hmethM, hstM, habM⟩ := Cond.instanceMethod_spec hinst
  obtain ⟨m8, methM', cM, hn8, hmethM', -, -, -, -, -, -, hsigM⟩ := Cond.codeWith_spec hcode
  cases Option.some.inj (hn8.symm.trans hnamed)
  cases hmethM.symm.trans hmethM'
  obtain ⟨c2, r2, m2, q1, q2, q3, q4, kP, hkP, hkPi⟩ := Cond.selects_spec hsel
  cases hcls.symm.trans q1
  cases (State.methodFound?_of_named hnamed hy).symm.trans q2
  cases hnamed.symm.trans q3
  have hselP : selectMethod e.platform s.vm cellB.cls mk = .method mk := by rw [Launch.admits_selectMethod X.admits]; exact q4
  obtain ⟨vm₁, X₁, hstep₁⟩ := X.invokevirtual hexec hown hlink hnamed hmethM hstM hkP hkPi hy (a := b) (cell := cellB) hcell
    (fun z h => by rw [h] at hobj; cases hobj) hselP hmethM habM hkP hkPi (g := g) hg (argsL := argsL) (rest := rest) (hlen _ hsigM) hstack hdg
  obtain ⟨v, B, X', hpost, hsteps⟩ := hK m meth c ⟨T.setVm vm₁, locs, cells, slots⟩ { g with stack := rest } (.invokevirtual index) mk (Value.ref b :: argsL).toArray X₁ hg hsize hdg hW (X₁.named hnamed) (hpre vm₁ X₁.warmed)
  exact ⟨v, vm₁, B, X₁.warmed, X', hpost, fun target h => hstep₁ _ fun acts => by rw [doInvoke_state]; exact hsteps.trans h⟩
abbrev vx_CVW (R : Room) (s : State) (args : Array Value) (own C : String) (index : Nat) (y : MethodName) (bytes : ByteArray) (maxL : Nat) (ret : Option FieldType) (hh : List (Nat × Nat × Nat × Nat)) (ws : List Cond) (rm : Room) (mc ms n : Nat) : Prop :=
  (rm.cells = mc ∧ rm.slots = ms ∧ rm.frames + 1 ≤ R.frames ∧ 8 + (maxL + 11) + rm.locals ≤ R.locals ∧ (∀ w ∈ ws, ∀ (a' : Array Value) (U : State), s.WarmedH U.vm → w.before a' U = true) ∧ Cond.codeWith y bytes maxL ret hh ∈ ws) ∧
  (Cond.codeWith y bytes maxL ret hh).before args s = true ∧ (Cond.initialized y.cls).before args s = true ∧ (y.cls ≠ "java/lang/invoke/MethodHandle" ∧ y.cls ≠ "java/lang/invoke/VarHandle") ∧
  (∀ sig, parseMethodDescriptor y.desc = some sig → n = sig.parameters.length) ∧ (Cond.methodLink own index y).before args s = true ∧ (Cond.instanceMethod y).before args s = true ∧ (Cond.selects C y y).before args s = true
theorem vx_cwVW {own C : String} {index maxL mc ms : Nat} {y : MethodName} {bytes : ByteArray} {ret : Option FieldType} {hh : List (Nat × Nat × Nat × Nat)} {Ts ws ws' : List Cond} {rm : Room} (n : Nat) (ht : ∀ w ∈ Ts, w.before args s = true) (hT : GoodIn Ts (wsV own index C y ws)) (hw : ws = Cond.codeWith y bytes maxL ret hh :: ws') (hrc : rm.cells = mc) (hrs : rm.slots = ms)
    (hd : y.cls = C ∧ y.cls ≠ "java/lang/invoke/MethodHandle" ∧ y.cls ≠ "java/lang/invoke/VarHandle" ∧ (parseMethodDescriptor y.desc).map (fun d => d.parameters.length) = some n) (hR : rm.frames + 1 ≤ R.frames ∧ 8 + (maxL + 11) + rm.locals ≤ R.locals) :
    vx_CVW R s args own C index y bytes maxL ret hh ws rm mc ms n := by
  obtain ⟨hC, hd⟩ := hd
  subst hC
  have ok : ∀ w ∈ wsV own index y.cls y ws, w.before args s = true := fun w h => ht w (hT w h).1
  have hG : GoodIn Ts ws := fun w h => hT w (by unfold wsV; exact List.mem_append_right _ h)
  have hc : Cond.codeWith y bytes maxL ret hh ∈ ws := by rw [hw]; exact List.mem_cons_self
  refine ⟨⟨hrc, hrs, hR.1, hR.2, pay_in ht hG, hc⟩, ht _ (hG _ hc).1, ok _ (by simp [wsV]), ⟨hd.1, hd.2.1⟩, fun sig h => ?_, ok _ (by simp [wsV]), ok _ (by simp [wsV]), ok _ (by simp [wsV])⟩
  have h2 := hd.2.2
  rw [h] at h2
  exact (Option.some.inj h2).symm
theorem vx_runVW {y : MethodName} {bytes cc : ByteArray} {maxL nL mc ms n index : Nat} {ret : Option FieldType} {hh : List (Nat × Nat × Nat × Nat)} {ws : List Cond} {rm : Room} {Pc : Array Value → State → Prop} {Qc : Array Value → State → Outcome → State → Prop} {free : Addr → Prop} {Ts : List Cond} {own C : String} {b : Addr} {As rest : List Value} {g : JFrame}
    (S : CallFix p m c cc nL s args Ts own) (hM : Met l y ws rm Pc Qc mc ms free) (cw : vx_CVW R s args own C index y bytes maxL ret hh ws rm mc ms n) (hp : PreV s H C b Pc As)
    (hg : g.method = m) (hn : As.length = n) (hsize : g.locals.size = nL) (hstack : g.stack = As.reverse ++ .ref b :: rest) (hW : 2 * g.monitorRoom + (rest.map fun v => v.category).sum ≤ 8) (hdg : decode cc g.pc = .ok (.invokevirtual index, 3)) (hf : cells + mc ≤ R.cells ∧ slots + ms ≤ R.slots) :
    va_Run p l e R s m args below meth c H locs cells slots mc ms g rest (Qc (Value.ref b :: As).toArray) free := by
  obtain ⟨⟨hrc, hrs, hfr, hlo, hws, hcw⟩, hcode, hini, hy, hlen, hl, hin, hse⟩ := cw
  have hK : Back l R p e below s args y 3 8 (PreOf R mc ms Pc) (PostOf Qc mc ms free) := va_backW (hh := hh) (bytes := bytes) (maxL := maxL) (ret := ret) hM hp.1 hrc hrs hfr hlo hws hcw (fun a' U hW => word_at hW (Or.inl (by first | rfl | simp [Cond.onTables, Cond.keeps, Cond.steady])) hini)
  obtain ⟨hx, hb, hml, ho, -⟩ := S
  obtain ⟨-, ⟨cellB, hcB, hoB, hclB⟩, hPc⟩ := hp
  intro T hT X
  obtain ⟨v, vm₁, ⟨U', l2, c2, s2⟩, hW₁, X', ⟨g', mk, t, L, e1, e2, hq, h1, hL, h2, h3⟩, st⟩ := vx_callVW X hx (C := C) (hh := hh) (bytes := bytes) (maxL := maxL) (ret := ret) ho hl hin hse hcode hy hK (by rw [hT]; exact hcB) hoB hclB hg (hsize.trans hml.symm) (argsL := As) (rest := rest) (fun sig h => hn.trans (hlen sig h)) hstack hW (by rw [hb]; exact hdg)
    (fun vm₁ hW₁ => ⟨hf.1, hf.2, hPc (T.setVm vm₁) hT hW₁⟩)
  dsimp only [Pt.U, Pt.locs, Pt.cells, Pt.slots] at X' e1 e2 h1 h2 h3 st
  subst h1; subst h2; subst h3
  exact ⟨v, (T.setVm vm₁).calling g' mk (Value.ref b :: As).toArray, t, U', L, hT, X', hL, e1, e2, hq, st⟩
section
variable {y : MethodName} {bytes cc : ByteArray} {maxL nL mc ms n index : Nat} {ret : Option FieldType} {ws : List Cond} {rm : Room} {Pc : Array Value → State → Prop} {Qc : Array Value → State → Outcome → State → Prop} {XC : String → State → State → Prop} {free : Addr → Prop} {Ts : List Cond} {own C : String} {b : Addr} {As rest : List Value} {g : JFrame}
theorem vx_runVX {hh : List (Nat × Nat × Nat × Nat)} (S : CallFix p m c cc nL s args Ts own) (hM : vx_Met l y ws rm Pc Qc XC mc ms free) (cw : vx_CVW R s args own C index y bytes maxL ret hh ws rm mc ms n) (hp : PreV s H C b Pc As)
    (hg : g.method = m) (hn : As.length = n) (hsize : g.locals.size = nL) (hstack : g.stack = As.reverse ++ .ref b :: rest) (hW : 2 * g.monitorRoom + (rest.map fun v => v.category).sum ≤ 8) (hdg : decode cc g.pc = .ok (.invokevirtual index, 3)) (hf : cells + mc ≤ R.cells ∧ slots + ms ≤ R.slots) :
    vx_Run p l e R s m args below meth c H locs cells slots mc ms g rest (Qc (Value.ref b :: As).toArray) XC free := by
  obtain ⟨⟨hrc, hrs, hfr, hlo, hws, hcw⟩, hcode, hini, hy, hlen, hl, hin, hse⟩ := cw
  have hK : vx_Back l R p e below s args y 3 8 (PreOf R mc ms Pc) (PostOf Qc mc ms free) (vx_Post XC mc ms free) := vx_backW (hh := hh) (bytes := bytes) (maxL := maxL) (ret := ret) hM hp.1 hrc hrs hfr hlo hws hcw (fun a' U hW => word_at hW (Or.inl (by first | rfl | simp [Cond.onTables, Cond.keeps, Cond.steady])) hini)
  obtain ⟨hx, hb, hml, ho, -⟩ := S
  obtain ⟨-, ⟨cellB, hcB, hoB, hclB⟩, hPc⟩ := hp
  intro T hT X
  rcases vx_callVX X hx (C := C) (hh := hh) (bytes := bytes) (maxL := maxL) (ret := ret) ho hl hin hse hcode hy hK (by rw [hT]; exact hcB) hoB hclB hg (hsize.trans hml.symm) (argsL := As) (rest := rest) (fun sig h => hn.trans (hlen sig h)) hstack hW (by rw [hb]; exact hdg)
    (fun vm₁ hW₁ => ⟨hf.1, hf.2, hPc (T.setVm vm₁) hT hW₁⟩) with ⟨v, vm₁, ⟨U', l2, c2, s2⟩, hW₁, X', ⟨g', mk, t, L, e1, e2, hq, h1, hL, h2, h3⟩, st⟩ | ⟨q, vm₁, ⟨U', l2, c2, s2⟩, hW₁, X', ⟨g', mk, t, L, E, ce, e1, e2, hq, hce, hcv, hcl, h1, hL, h2, h3⟩, st⟩
  · dsimp only [Pt.U, Pt.locs, Pt.cells, Pt.slots] at X' e1 e2 h1 h2 h3 st
    subst h1; subst h2; subst h3
    exact Or.inl ⟨v, (T.setVm vm₁).calling g' mk (Value.ref b :: As).toArray, t, U', L, hT, X', hL, e1, e2, hq, st⟩
  · dsimp only [Pt.U, Pt.locs, Pt.cells, Pt.slots] at X' e1 e2 h1 h2 h3 st hcl
    subst h1; subst h2; subst h3
    exact Or.inr ⟨q, (T.setVm vm₁).calling g' mk (Value.ref b :: As).toArray, t, U', L, E, ce, hT, X', hL, e1, e2, hq, hce, hcv, vx_cls hW₁ hcl, st⟩
theorem vx_runSX {hh : List (Nat × Nat × Nat × Nat)} (S : CallFix p m c cc nL s args Ts own) (hM : vx_Met l y ws rm Pc Qc XC mc ms free) (cw : vx_CSW R s args own index y bytes maxL ret hh ws rm mc ms n) (hp : PreS s H Pc As)
    (hg : g.method = m) (hn : As.length = n) (hsize : g.locals.size = nL) (hstack : g.stack = As.reverse ++ rest) (hW : 2 * g.monitorRoom + (rest.map fun v => v.category).sum ≤ 8) (hdg : decode cc g.pc = .ok (.invokestatic index, 3)) (hf : cells + mc ≤ R.cells ∧ slots + ms ≤ R.slots) :
    vx_Run p l e R s m args below meth c H locs cells slots mc ms g rest (Qc As.toArray) XC free := by
  obtain ⟨⟨hrc, hrs, hfr, hlo, hws, hcw⟩, hcode, hini, hy, hlen, hl, hstt⟩ := cw
  have hK : vx_Back l R p e below s args y 3 8 (PreOf R mc ms Pc) (PostOf Qc mc ms free) (vx_Post XC mc ms free) := vx_backW (hh := hh) (bytes := bytes) (maxL := maxL) (ret := ret) hM hp.1 hrc hrs hfr hlo hws hcw (fun a' U hW => word_at hW (Or.inl (by first | rfl | simp [Cond.onTables, Cond.keeps, Cond.steady])) hini)
  obtain ⟨hx, hb, hml, ho, -⟩ := S
  intro T hT X
  rcases vx_callSX X hx (hh := hh) (bytes := bytes) (maxL := maxL) (ret := ret) ho hl hstt hini hcode hy hK hg (hsize.trans hml.symm) (argsL := As) (rest := rest) (fun sig h => hn.trans (hlen sig h)) hstack hW (by rw [hb]; exact hdg)
    (fun vm₁ hW₁ => ⟨hf.1, hf.2, hp.2 (T.setVm vm₁) hT hW₁⟩) with ⟨v, vm₁, ⟨U', l2, c2, s2⟩, hW₁, X', ⟨g', mk, t, L, e1, e2, hq, h1, hL, h2, h3⟩, st⟩ | ⟨q, vm₁, ⟨U', l2, c2, s2⟩, hW₁, X', ⟨g', mk, t, L, E, ce, e1, e2, hq, hce, hcv, hcl, h1, hL, h2, h3⟩, st⟩
  · dsimp only [Pt.U, Pt.locs, Pt.cells, Pt.slots] at X' e1 e2 h1 h2 h3 st
    subst h1; subst h2; subst h3
    exact Or.inl ⟨v, (T.setVm vm₁).calling g' mk As.toArray, t, U', L, hT, X', hL, e1, e2, hq, st⟩
  · dsimp only [Pt.U, Pt.locs, Pt.cells, Pt.slots] at X' e1 e2 h1 h2 h3 st hcl
    subst h1; subst h2; subst h3
    exact Or.inr ⟨q, (T.setVm vm₁).calling g' mk As.toArray, t, U', L, E, ce, hT, X', hL, e1, e2, hq, hce, hcv, vx_cls hW₁ hcl, st⟩
end
end VXH
theorem vx_ofWH {l : Launch} {y : MethodName} {ws ws' : List Cond} {rm : Room} {Pc : Array Value → State → Prop} {Qc : Array Value → State → Outcome → State → Prop} {XC : String → State → State → Prop} {mc ms : Nat} {free : Addr → Prop} {cc : ByteArray} {maxL : Nat} {ret : Option FieldType} {hh : List (Nat × Nat × Nat × Nat)}
    (hy : plainName y.cls = true) (hw : ws = Cond.codeWith y cc maxL ret hh :: ws')
    (body : ∀ p e s m args below meth c s₁, BodyLoose p l y (headSpec ws rm) cc maxL ret e s m args below meth c s₁ → c.maxLocals = maxL → Pc args s →
      W p l e (headSpec ws rm).room s m args below meth c s.heap [] 0 0 (vx_MQ below Qc XC args s mc ms free) (entryFrame m args maxL)) : vx_Met l y ws rm Pc Qc XC mc ms free := by
  refine MetFree.of_bodyS (code := cc) (maxLocals := maxL) (ret := ret) hy ?_ ?_
  · intro args s m h hn
    obtain ⟨m9, meth, c, hn9, h1, h2, h3, h4, -, h5, h6, -⟩ := Cond.codeWith_spec (atoms_spec (ws := ws) h _ (by rw [hw]; exact List.mem_cons_self))
    cases hn.symm.trans hn9
    exact ⟨meth, c, h1, h2, h3, h4, h5, h6⟩
  · intro p e s m args below meth c s₁ B hml hP _
    have hh0 : s₁.heap = s.heap := by rw [B.state]; rfl
    obtain ⟨t, a1, o, b1, b2, b3⟩ := body p e s m args below meth c s₁ B hml hP s₁ hh0 (Stand.of_body B)
    exact ⟨t, o, a1, b1, b2, b3⟩
/-! ===== END ===== -/
end
section
/-! ===== BEGIN printed: names, fields, word lists, decode rows ===== -/
def RX0 : String := "ShareDisk$Clients"
def TX0 : u_T := fun k => match k with
  | 0 => ("ShareDisk$Clients", "there", "[Z", true)
  | 1 => ("ShareDisk$Clients", "sectorCost", "[I", true)
  | 2 => ("ShareDisk$Clients", "budget", "[I", true)
  | 3 => ("ShareDisk$Clients", "tag", "[J", true)
  | 4 => ("ShareDisk$Clients", "waiting", "[I", true)
  | 5 => ("ShareDisk$Clients", "sectors", "[I", true)
  | _ => ("ShareDisk$Clients", "lead", "[[J", true)
def tyX0 : Nat → FieldType := fun k => match k with
  | 0 => .array .boolean
  | 1 => .array .int
  | 2 => .array .int
  | 3 => .array .long
  | 4 => .array .int
  | 5 => .array .int
  | _ => .array (.array .long)
abbrev wsX00 : List Cond := u_ws RX0 TX0 7
theorem nmX0 : ∀ a, a < 7 → ∀ b, b < 7 → a ≠ b → (TX0 a).2.1 ≠ (TX0 b).2.1 := by decide +kernel
theorem tyX0_ok : ∀ k, k < 7 → parseFieldDescriptor (TX0 k).2.2.1 = some (tyX0 k) := by decide +kernel
abbrev cX0_init : ByteArray := prog_2_method_1_code
def yX0_init : MethodName := ⟨RX0, "<init>", "()V"⟩
abbrev cX0_isThere : ByteArray := prog_2_method_2_code
def yX0_isThere : MethodName := ⟨RX0, "isThere", "(I)Z"⟩
abbrev cX0_budgetOf : ByteArray := prog_2_method_3_code
def yX0_budgetOf : MethodName := ⟨RX0, "budgetOf", "(I)I"⟩
abbrev cX0_tagOf : ByteArray := prog_2_method_4_code
def yX0_tagOf : MethodName := ⟨RX0, "tagOf", "(I)J"⟩
abbrev cX0_waitingOf : ByteArray := prog_2_method_5_code
def yX0_waitingOf : MethodName := ⟨RX0, "waitingOf", "(I)I"⟩
abbrev cX0_sectorsOf : ByteArray := prog_2_method_6_code
def yX0_sectorsOf : MethodName := ⟨RX0, "sectorsOf", "(I)I"⟩
abbrev cX0_enter : ByteArray := prog_2_method_7_code
def yX0_enter : MethodName := ⟨RX0, "enter", "(IJ)V"⟩
abbrev cX0_setShare : ByteArray := prog_2_method_8_code
def yX0_setShare : MethodName := ⟨RX0, "setShare", "(III)V"⟩
abbrev cX0_leave : ByteArray := prog_2_method_9_code
def yX0_leave : MethodName := ⟨RX0, "leave", "(I)V"⟩
abbrev cX0_howMany : ByteArray := prog_2_method_10_code
def yX0_howMany : MethodName := ⟨RX0, "howMany", "()I"⟩
abbrev cX0_noteRequest : ByteArray := prog_2_method_11_code
def yX0_noteRequest : MethodName := ⟨RX0, "noteRequest", "(IJ)V"⟩
abbrev cX0_forgetLead : ByteArray := prog_2_method_12_code
def yX0_forgetLead : MethodName := ⟨RX0, "forgetLead", "(I)V"⟩
abbrev cX0_noteService : ByteArray := prog_2_method_13_code
def yX0_noteService : MethodName := ⟨RX0, "noteService", "(II)V"⟩
abbrev cX0_leadOf : ByteArray := prog_2_method_14_code
def yX0_leadOf : MethodName := ⟨RX0, "leadOf", "(II)J"⟩
abbrev cX0_nextInTurn : ByteArray := prog_2_method_15_code
def yX0_nextInTurn : MethodName := ⟨RX0, "nextInTurn", "()I"⟩
abbrev cX0_greatestTag : ByteArray := prog_2_method_16_code
def yX0_greatestTag : MethodName := ⟨RX0, "greatestTag", "(J)J"⟩
def RX1 : String := "ShareDisk$Requests"
def TX1 : u_T := fun k => match k with
  | 0 => ("ShareDisk$Requests", "owner", "[I", true)
  | 1 => ("ShareDisk$Requests", "write", "[Z", true)
  | 2 => ("ShareDisk$Requests", "first", "[I", true)
  | 3 => ("ShareDisk$Requests", "size", "[I", true)
  | 4 => ("ShareDisk$Requests", "deadline", "[J", true)
  | 5 => ("ShareDisk$Requests", "waits", "[Z", true)
  | 6 => ("ShareDisk$Requests", "blockers", "[I", true)
  | 7 => ("ShareDisk$Requests", "servedHow", "[I", true)
  | 8 => ("ShareDisk$Requests", "servedOrder", "[I", true)
  | 9 => ("ShareDisk$Requests", "tickets", "I", false)
  | 10 => ("ShareDisk$Requests", "served", "I", false)
  | _ => ("ShareDisk$Requests", "urgent", "I", false)
def tyX1 : Nat → FieldType := fun k => match k with
  | 0 => .array .int
  | 1 => .array .boolean
  | 2 => .array .int
  | 3 => .array .int
  | 4 => .array .long
  | 5 => .array .boolean
  | 6 => .array .int
  | 7 => .array .int
  | 8 => .array .int
  | 9 => .int
  | 10 => .int
  | _ => .int
abbrev wsX10 : List Cond := u_ws RX1 TX1 12
theorem nmX1 : ∀ a, a < 12 → ∀ b, b < 12 → a ≠ b → (TX1 a).2.1 ≠ (TX1 b).2.1 := by decide +kernel
theorem tyX1_ok : ∀ k, k < 12 → parseFieldDescriptor (TX1 k).2.2.1 = some (tyX1 k) := by decide +kernel
abbrev cX1_init : ByteArray := prog_3_method_1_code
def yX1_init : MethodName := ⟨RX1, "<init>", "()V"⟩
abbrev cX1_isFull : ByteArray := prog_3_method_2_code
def yX1_isFull : MethodName := ⟨RX1, "isFull", "()Z"⟩
abbrev cX1_isTicket : ByteArray := prog_3_method_3_code
def yX1_isTicket : MethodName := ⟨RX1, "isTicket", "(I)Z"⟩
abbrev cX1_ownerOf : ByteArray := prog_3_method_4_code
def yX1_ownerOf : MethodName := ⟨RX1, "ownerOf", "(I)I"⟩
abbrev cX1_firstOf : ByteArray := prog_3_method_5_code
def yX1_firstOf : MethodName := ⟨RX1, "firstOf", "(I)I"⟩
abbrev cX1_sizeOf : ByteArray := prog_3_method_6_code
def yX1_sizeOf : MethodName := ⟨RX1, "sizeOf", "(I)I"⟩
abbrev cX1_waiting : ByteArray := prog_3_method_7_code
def yX1_waiting : MethodName := ⟨RX1, "waiting", "()I"⟩
abbrev cX1_served : ByteArray := prog_3_method_8_code
def yX1_served : MethodName := ⟨RX1, "served", "()I"⟩
abbrev cX1_urgent : ByteArray := prog_3_method_9_code
def yX1_urgent : MethodName := ⟨RX1, "urgent", "()I"⟩
abbrev cX1_servedAt : ByteArray := prog_3_method_10_code
def yX1_servedAt : MethodName := ⟨RX1, "servedAt", "(I)I"⟩
abbrev cX1_stateOf : ByteArray := prog_3_method_11_code
def yX1_stateOf : MethodName := ⟨RX1, "stateOf", "(I)I"⟩
abbrev cX1_add : ByteArray := prog_3_method_12_code
def yX1_add : MethodName := ⟨RX1, "add", "(IZIIJ)I"⟩
abbrev cX1_markServed : ByteArray := prog_3_method_13_code
def yX1_markServed : MethodName := ⟨RX1, "markServed", "(II)V"⟩
abbrev cX1_mustKeepOrder : ByteArray := prog_3_method_14_code
def yX1_mustKeepOrder : MethodName := ⟨RX1, "mustKeepOrder", "(II)Z"⟩
abbrev cX1_mostUrgent : ByteArray := prog_3_method_15_code
def yX1_mostUrgent : MethodName := ⟨RX1, "mostUrgent", "(J)I"⟩
abbrev cX1_nextAlong : ByteArray := prog_3_method_16_code
def yX1_nextAlong : MethodName := ⟨RX1, "nextAlong", "(II)I"⟩
abbrev cX1_turnOf : ByteArray := prog_3_method_17_code
def yX1_turnOf : MethodName := ⟨RX1, "turnOf", "(II)I"⟩
def RX2 : String := "ShareDisk"
def TX2 : u_T := fun k => match k with
  | 0 => ("ShareDisk", "clients", "LShareDisk$Clients;", true)
  | 1 => ("ShareDisk", "requests", "LShareDisk$Requests;", true)
  | 2 => ("ShareDisk", "clock", "J", false)
  | 3 => ("ShareDisk", "head", "I", false)
  | 4 => ("ShareDisk", "passedOver", "J", false)
  | 5 => ("ShareDisk", "systemTag", "J", false)
  | 6 => ("ShareDisk", "sliceOwner", "I", false)
  | _ => ("ShareDisk", "sliceLeft", "I", false)
def tyX2 : Nat → FieldType := fun k => match k with
  | 0 => .object "ShareDisk$Clients"
  | 1 => .object "ShareDisk$Requests"
  | 2 => .long
  | 3 => .int
  | 4 => .long
  | 5 => .long
  | 6 => .int
  | _ => .int
abbrev wsX20 : List Cond := u_ws RX2 TX2 8
theorem nmX2 : ∀ a, a < 8 → ∀ b, b < 8 → a ≠ b → (TX2 a).2.1 ≠ (TX2 b).2.1 := by decide +kernel
theorem tyX2_ok : ∀ k, k < 8 → parseFieldDescriptor (TX2 k).2.2.1 = some (tyX2 k) := by decide +kernel
abbrev cX2_init : ByteArray := prog_1_method_1_code
def yX2_init : MethodName := ⟨RX2, "<init>", "()V"⟩
abbrev cX2_client : ByteArray := prog_1_method_2_code
def yX2_client : MethodName := ⟨RX2, "client", "(III)V"⟩
abbrev cX2_gone : ByteArray := prog_1_method_3_code
def yX2_gone : MethodName := ⟨RX2, "gone", "(I)V"⟩
abbrev cX2_submit : ByteArray := prog_1_method_4_code
def yX2_submit : MethodName := ⟨RX2, "submit", "(IZIII)I"⟩
abbrev cX2_dispatch : ByteArray := prog_1_method_5_code
def yX2_dispatch : MethodName := ⟨RX2, "dispatch", "()I"⟩
abbrev cX2_pass : ByteArray := prog_1_method_6_code
def yX2_pass : MethodName := ⟨RX2, "pass", "(I)J"⟩
abbrev cX2_state : ByteArray := prog_1_method_7_code
def yX2_state : MethodName := ⟨RX2, "state", "(I)I"⟩
abbrev cX2_order : ByteArray := prog_1_method_8_code
def yX2_order : MethodName := ⟨RX2, "order", "(I)I"⟩
abbrev cX2_tag : ByteArray := prog_1_method_9_code
def yX2_tag : MethodName := ⟨RX2, "tag", "(I)J"⟩
abbrev cX2_lag : ByteArray := prog_1_method_10_code
def yX2_lag : MethodName := ⟨RX2, "lag", "(II)J"⟩
abbrev cX2_count : ByteArray := prog_1_method_11_code
def yX2_count : MethodName := ⟨RX2, "count", "(I)J"⟩
abbrev cX2_countOfDisk : ByteArray := prog_1_method_12_code
def yX2_countOfDisk : MethodName := ⟨RX2, "countOfDisk", "(I)J"⟩
abbrev cX2_requireThere : ByteArray := prog_1_method_13_code
def yX2_requireThere : MethodName := ⟨RX2, "requireThere", "(I)V"⟩
abbrev cX2_isWithin : ByteArray := prog_1_method_14_code
def yX2_isWithin : MethodName := ⟨RX2, "isWithin", "(III)Z"⟩
abbrev cX2_areOnDisk : ByteArray := prog_1_method_15_code
def yX2_areOnDisk : MethodName := ⟨RX2, "areOnDisk", "(II)Z"⟩
abbrev cX2_beginSlice : ByteArray := prog_1_method_16_code
def yX2_beginSlice : MethodName := ⟨RX2, "beginSlice", "()V"⟩
abbrev cX2_endSlice : ByteArray := prog_1_method_17_code
def yX2_endSlice : MethodName := ⟨RX2, "endSlice", "()V"⟩
abbrev cX2_serve : ByteArray := prog_1_method_18_code
def yX2_serve : MethodName := ⟨RX2, "serve", "(II)V"⟩
abbrev cX2_moveHead : ByteArray := prog_1_method_19_code
def yX2_moveHead : MethodName := ⟨RX2, "moveHead", "(II)V"⟩
abbrev cX2_takeFromSlice : ByteArray := prog_1_method_20_code
def yX2_takeFromSlice : MethodName := ⟨RX2, "takeFromSlice", "(I)V"⟩
def RX3 : String := "ShareDiskModel"
def TX3 : u_T := fun k => match k with
  | 0 => ("ShareDiskModel", "thrown", "I", false)
  | 1 => ("ShareDiskModel", "clock", "J", false)
  | 2 => ("ShareDiskModel", "head", "I", false)
  | 3 => ("ShareDiskModel", "passed", "J", false)
  | 4 => ("ShareDiskModel", "there", "[Z", true)
  | 5 => ("ShareDiskModel", "weights", "[I", true)
  | 6 => ("ShareDiskModel", "budgets", "[I", true)
  | 7 => ("ShareDiskModel", "tags", "[J", true)
  | 8 => ("ShareDiskModel", "sectors", "[J", true)
  | 9 => ("ShareDiskModel", "grown", "[J", true)
  | 10 => ("ShareDiskModel", "bases", "[J", true)
  | 11 => ("ShareDiskModel", "tickets", "I", false)
  | 12 => ("ShareDiskModel", "served", "I", false)
  | 13 => ("ShareDiskModel", "urgents", "I", false)
  | 14 => ("ShareDiskModel", "clientOf", "[I", true)
  | 15 => ("ShareDiskModel", "first", "[I", true)
  | 16 => ("ShareDiskModel", "counts", "[I", true)
  | 17 => ("ShareDiskModel", "order", "[I", true)
  | 18 => ("ShareDiskModel", "writes", "[Z", true)
  | 19 => ("ShareDiskModel", "done", "[Z", true)
  | 20 => ("ShareDiskModel", "urgent", "[Z", true)
  | 21 => ("ShareDiskModel", "deadlines", "[J", true)
  | 22 => ("ShareDiskModel", "slice", "I", false)
  | _ => ("ShareDiskModel", "left", "I", false)
def tyX3 : Nat → FieldType := fun k => match k with
  | 0 => .int
  | 1 => .long
  | 2 => .int
  | 3 => .long
  | 4 => .array .boolean
  | 5 => .array .int
  | 6 => .array .int
  | 7 => .array .long
  | 8 => .array .long
  | 9 => .array .long
  | 10 => .array .long
  | 11 => .int
  | 12 => .int
  | 13 => .int
  | 14 => .array .int
  | 15 => .array .int
  | 16 => .array .int
  | 17 => .array .int
  | 18 => .array .boolean
  | 19 => .array .boolean
  | 20 => .array .boolean
  | 21 => .array .long
  | 22 => .int
  | _ => .int
abbrev wsX30 : List Cond := u_ws RX3 TX3 24
theorem nmX3 : ∀ a, a < 24 → ∀ b, b < 24 → a ≠ b → (TX3 a).2.1 ≠ (TX3 b).2.1 := by decide +kernel
theorem tyX3_ok : ∀ k, k < 24 → parseFieldDescriptor (TX3 k).2.2.1 = some (tyX3 k) := by decide +kernel
abbrev cX3_init : ByteArray := prog_5_method_1_code
def yX3_init : MethodName := ⟨RX3, "<init>", "()V"⟩
abbrev cX3_thrown : ByteArray := prog_5_method_2_code
def yX3_thrown : MethodName := ⟨RX3, "thrown", "()I"⟩
abbrev cX3_fails : ByteArray := prog_5_method_3_code
def yX3_fails : MethodName := ⟨RX3, "fails", "(ZZ)Z"⟩
abbrev cX3_in : ByteArray := prog_5_method_4_code
def yX3_in : MethodName := ⟨RX3, "in", "(JJJ)Z"⟩
abbrev cX3_isThere : ByteArray := prog_5_method_5_code
def yX3_isThere : MethodName := ⟨RX3, "isThere", "(I)Z"⟩
abbrev cX3_waiting : ByteArray := prog_5_method_6_code
def yX3_waiting : MethodName := ⟨RX3, "waiting", "(I)I"⟩
abbrev cX3_client : ByteArray := prog_5_method_7_code
def yX3_client : MethodName := ⟨RX3, "client", "(III)V"⟩
abbrev cX3_gone : ByteArray := prog_5_method_8_code
def yX3_gone : MethodName := ⟨RX3, "gone", "(I)V"⟩
abbrev cX3_end : ByteArray := prog_5_method_9_code
def yX3_end : MethodName := ⟨RX3, "end", "()V"⟩
abbrev cX3_submit : ByteArray := prog_5_method_10_code
def yX3_submit : MethodName := ⟨RX3, "submit", "(IZIII)I"⟩
abbrev cX3_begin : ByteArray := prog_5_method_11_code
def yX3_begin : MethodName := ⟨RX3, "begin", "(I)V"⟩
abbrev cX3_isBlocked : ByteArray := prog_5_method_12_code
def yX3_isBlocked : MethodName := ⟨RX3, "isBlocked", "(I)Z"⟩
abbrev cX3_canGo : ByteArray := prog_5_method_13_code
def yX3_canGo : MethodName := ⟨RX3, "canGo", "(I)Z"⟩
abbrev cX3_due : ByteArray := prog_5_method_14_code
def yX3_due : MethodName := ⟨RX3, "due", "()I"⟩
abbrev cX3_choose : ByteArray := prog_5_method_15_code
def yX3_choose : MethodName := ⟨RX3, "choose", "()V"⟩
abbrev cX3_next : ByteArray := prog_5_method_16_code
def yX3_next : MethodName := ⟨RX3, "next", "()I"⟩
abbrev cX3_ahead : ByteArray := prog_5_method_17_code
def yX3_ahead : MethodName := ⟨RX3, "ahead", "(I)I"⟩
abbrev cX3_dispatch : ByteArray := prog_5_method_18_code
def yX3_dispatch : MethodName := ⟨RX3, "dispatch", "()I"⟩
abbrev cX3_serve : ByteArray := prog_5_method_19_code
def yX3_serve : MethodName := ⟨RX3, "serve", "(IZ)V"⟩
abbrev cX3_pass : ByteArray := prog_5_method_20_code
def yX3_pass : MethodName := ⟨RX3, "pass", "(I)J"⟩
abbrev cX3_state : ByteArray := prog_5_method_21_code
def yX3_state : MethodName := ⟨RX3, "state", "(I)I"⟩
abbrev cX3_order : ByteArray := prog_5_method_22_code
def yX3_order : MethodName := ⟨RX3, "order", "(I)I"⟩
abbrev cX3_tag : ByteArray := prog_5_method_23_code
def yX3_tag : MethodName := ⟨RX3, "tag", "(I)J"⟩
abbrev cX3_lag : ByteArray := prog_5_method_24_code
def yX3_lag : MethodName := ⟨RX3, "lag", "(II)J"⟩
abbrev cX3_count : ByteArray := prog_5_method_25_code
def yX3_count : MethodName := ⟨RX3, "count", "(I)J"⟩
def RJ9 : String := "java/lang/Math"
def TJ9 : u_T := fun k => match k with
  | _ => ("", "", "", false)
def tyJ9 : Nat → FieldType := fun k => match k with
  | _ => .int
abbrev wsJ90 : List Cond := u_ws RJ9 TJ9 0
theorem nmJ9 : ∀ a, a < 0 → ∀ b, b < 0 → a ≠ b → (TJ9 a).2.1 ≠ (TJ9 b).2.1 := by decide +kernel
theorem tyJ9_ok : ∀ k, k < 0 → parseFieldDescriptor (TJ9 k).2.2.1 = some (tyJ9 k) := by decide +kernel
abbrev cJ9_abs_0f7a4 : ByteArray := prog_10_method_59_code
def yJ9_abs_0f7a4 : MethodName := ⟨RJ9, "abs", "(I)I"⟩
abbrev cJ9_max_f86c9 : ByteArray := prog_10_method_66_code
def yJ9_max_f86c9 : MethodName := ⟨RJ9, "max", "(JJ)J"⟩
def RL : String := "ShareDiskLaw"
abbrev cL_client : ByteArray := method_3_code
def yL_client : MethodName := ⟨RL, "client", "(LShareDisk;III)I"⟩
abbrev cL_gone : ByteArray := method_4_code
def yL_gone : MethodName := ⟨RL, "gone", "(LShareDisk;I)I"⟩
abbrev cL_submit : ByteArray := method_5_code
def yL_submit : MethodName := ⟨RL, "submit", "(LShareDisk;IZIII[J)I"⟩
abbrev cL_pass : ByteArray := method_6_code
def yL_pass : MethodName := ⟨RL, "pass", "(LShareDisk;I[J)I"⟩
abbrev cL_state : ByteArray := method_7_code
def yL_state : MethodName := ⟨RL, "state", "(LShareDisk;I[J)I"⟩
abbrev cL_tag : ByteArray := method_8_code
def yL_tag : MethodName := ⟨RL, "tag", "(LShareDisk;I[J)I"⟩
abbrev cL_lag : ByteArray := method_9_code
def yL_lag : MethodName := ⟨RL, "lag", "(LShareDisk;II[J)I"⟩
abbrev cL_law : ByteArray := code
def yL_law : MethodName := ⟨RL, "law", "([I)Z"⟩
def wsX0_init : List Cond := .code yX0_init cX0_init 1 none :: ([.methodLink RX0 3 objectInit, .instanceMethod objectInit, .code objectInit ⟨#[0xb1]⟩ 1 none, .arrayClass .boolean, .fieldLink RX0 9 "ShareDisk$Clients" "there" "[Z", .arrayClass .int, .fieldLink RX0 15 "ShareDisk$Clients" "sectorCost" "[I", .fieldLink RX0 19 "ShareDisk$Clients" "budget" "[I", .arrayClass .long, .fieldLink RX0 22 "ShareDisk$Clients" "tag" "[J", .fieldLink RX0 26 "ShareDisk$Clients" "waiting" "[I", .fieldLink RX0 29 "ShareDisk$Clients" "sectors" "[I", .classLink RX0 32 "[[J", .fieldLink RX0 34 "ShareDisk$Clients" "lead" "[[J"] ++ wsX00)
def wsX0_isThere : List Cond := .code yX0_isThere cX0_isThere 2 (some .boolean) :: ([.fieldLink RX0 9 "ShareDisk$Clients" "there" "[Z"] ++ wsX00)
def wsX0_budgetOf : List Cond := .code yX0_budgetOf cX0_budgetOf 2 (some .int) :: ([.fieldLink RX0 19 "ShareDisk$Clients" "budget" "[I"] ++ wsX00)
def wsX0_tagOf : List Cond := .code yX0_tagOf cX0_tagOf 2 (some .long) :: ([.fieldLink RX0 22 "ShareDisk$Clients" "tag" "[J"] ++ wsX00)
def wsX0_waitingOf : List Cond := .code yX0_waitingOf cX0_waitingOf 2 (some .int) :: ([.fieldLink RX0 26 "ShareDisk$Clients" "waiting" "[I"] ++ wsX00)
def wsX0_sectorsOf : List Cond := .code yX0_sectorsOf cX0_sectorsOf 2 (some .int) :: ([.fieldLink RX0 29 "ShareDisk$Clients" "sectors" "[I"] ++ wsX00)
def wsX0_enter : List Cond := .code yX0_enter cX0_enter 4 none :: ([.fieldLink RX0 9 "ShareDisk$Clients" "there" "[Z", .fieldLink RX0 22 "ShareDisk$Clients" "tag" "[J"] ++ wsX00)
def wsX0_setShare : List Cond := .code yX0_setShare cX0_setShare 4 none :: ([.fieldLink RX0 15 "ShareDisk$Clients" "sectorCost" "[I", .fieldLink RX0 19 "ShareDisk$Clients" "budget" "[I"] ++ wsX00)
def wsX0_leave : List Cond := .code yX0_leave cX0_leave 2 none :: ([.fieldLink RX0 9 "ShareDisk$Clients" "there" "[Z", .fieldLink RX0 29 "ShareDisk$Clients" "sectors" "[I"] ++ wsX00)
def wsX0_howMany : List Cond := .code yX0_howMany cX0_howMany 3 (some .int) :: ([.fieldLink RX0 9 "ShareDisk$Clients" "there" "[Z"] ++ wsX00)
def wsX0_forgetLead : List Cond := .code yX0_forgetLead cX0_forgetLead 3 none :: ([.fieldLink RX0 34 "ShareDisk$Clients" "lead" "[[J"] ++ wsX00)
def wsX0_noteRequest : List Cond := .code yX0_noteRequest cX0_noteRequest 4 none :: ([.fieldLink RX0 26 "ShareDisk$Clients" "waiting" "[I", .fieldLink RX0 22 "ShareDisk$Clients" "tag" "[J", .methodLink RX0 37 Lib.MathLoose.max_long.x, .static Lib.MathLoose.max_long.x, .initialized "java/lang/Math", .code Lib.MathLoose.max_long.x Lib.MathLoose.max_long.code 4 (some .long), .methodLink RX0 43 yX0_forgetLead, .instanceMethod yX0_forgetLead, .selects RX0 yX0_forgetLead yX0_forgetLead, .initialized RX0, .code yX0_forgetLead cX0_forgetLead 3 none, .fieldLink RX0 34 "ShareDisk$Clients" "lead" "[[J"] ++ wsX00)
def wsX0_noteService : List Cond := .code yX0_noteService cX0_noteService 6 none :: ([.fieldLink RX0 15 "ShareDisk$Clients" "sectorCost" "[I", .fieldLink RX0 22 "ShareDisk$Clients" "tag" "[J", .fieldLink RX0 29 "ShareDisk$Clients" "sectors" "[I", .fieldLink RX0 26 "ShareDisk$Clients" "waiting" "[I", .fieldLink RX0 34 "ShareDisk$Clients" "lead" "[[J"] ++ wsX00)
def wsX0_leadOf : List Cond := .code yX0_leadOf cX0_leadOf 3 (some .long) :: ([.fieldLink RX0 26 "ShareDisk$Clients" "waiting" "[I", .fieldLink RX0 34 "ShareDisk$Clients" "lead" "[[J"] ++ wsX00)
def wsX0_nextInTurn : List Cond := .code yX0_nextInTurn cX0_nextInTurn 3 (some .int) :: ([.fieldLink RX0 26 "ShareDisk$Clients" "waiting" "[I", .fieldLink RX0 22 "ShareDisk$Clients" "tag" "[J"] ++ wsX00)
def wsX0_greatestTag : List Cond := .code yX0_greatestTag cX0_greatestTag 6 (some .long) :: ([.fieldLink RX0 9 "ShareDisk$Clients" "there" "[Z", .fieldLink RX0 22 "ShareDisk$Clients" "tag" "[J", .methodLink RX0 37 Lib.MathLoose.max_long.x, .static Lib.MathLoose.max_long.x, .initialized "java/lang/Math", .code Lib.MathLoose.max_long.x Lib.MathLoose.max_long.code 4 (some .long)] ++ wsX00)
def wsX1_init : List Cond := .code yX1_init cX1_init 1 none :: ([.methodLink RX1 3 objectInit, .instanceMethod objectInit, .code objectInit ⟨#[0xb1]⟩ 1 none, .arrayClass .int, .fieldLink RX1 9 "ShareDisk$Requests" "owner" "[I", .arrayClass .boolean, .fieldLink RX1 15 "ShareDisk$Requests" "write" "[Z", .fieldLink RX1 19 "ShareDisk$Requests" "first" "[I", .fieldLink RX1 22 "ShareDisk$Requests" "size" "[I", .arrayClass .long, .fieldLink RX1 25 "ShareDisk$Requests" "deadline" "[J", .fieldLink RX1 29 "ShareDisk$Requests" "waits" "[Z", .fieldLink RX1 32 "ShareDisk$Requests" "blockers" "[I", .fieldLink RX1 35 "ShareDisk$Requests" "servedHow" "[I", .fieldLink RX1 38 "ShareDisk$Requests" "servedOrder" "[I"] ++ wsX10)
def wsX1_isFull : List Cond := .code yX1_isFull cX1_isFull 1 (some .boolean) :: ([.fieldLink RX1 41 "ShareDisk$Requests" "tickets" "I"] ++ wsX10)
def wsX1_isTicket : List Cond := .code yX1_isTicket cX1_isTicket 2 (some .boolean) :: ([.fieldLink RX1 41 "ShareDisk$Requests" "tickets" "I"] ++ wsX10)
def wsX1_ownerOf : List Cond := .code yX1_ownerOf cX1_ownerOf 2 (some .int) :: ([.fieldLink RX1 9 "ShareDisk$Requests" "owner" "[I"] ++ wsX10)
def wsX1_firstOf : List Cond := .code yX1_firstOf cX1_firstOf 2 (some .int) :: ([.fieldLink RX1 19 "ShareDisk$Requests" "first" "[I"] ++ wsX10)
def wsX1_sizeOf : List Cond := .code yX1_sizeOf cX1_sizeOf 2 (some .int) :: ([.fieldLink RX1 22 "ShareDisk$Requests" "size" "[I"] ++ wsX10)
def wsX1_waiting : List Cond := .code yX1_waiting cX1_waiting 1 (some .int) :: ([.fieldLink RX1 41 "ShareDisk$Requests" "tickets" "I", .fieldLink RX1 45 "ShareDisk$Requests" "served" "I"] ++ wsX10)
def wsX1_served : List Cond := .code yX1_served cX1_served 1 (some .int) :: ([.fieldLink RX1 45 "ShareDisk$Requests" "served" "I"] ++ wsX10)
def wsX1_urgent : List Cond := .code yX1_urgent cX1_urgent 1 (some .int) :: ([.fieldLink RX1 48 "ShareDisk$Requests" "urgent" "I"] ++ wsX10)
def wsX1_servedAt : List Cond := .code yX1_servedAt cX1_servedAt 2 (some .int) :: ([.fieldLink RX1 45 "ShareDisk$Requests" "served" "I", .fieldLink RX1 38 "ShareDisk$Requests" "servedOrder" "[I"] ++ wsX10)
def wsX1_stateOf : List Cond := .code yX1_stateOf cX1_stateOf 2 (some .int) :: ([.fieldLink RX1 29 "ShareDisk$Requests" "waits" "[Z", .fieldLink RX1 35 "ShareDisk$Requests" "servedHow" "[I", .fieldLink RX1 32 "ShareDisk$Requests" "blockers" "[I"] ++ wsX10)
def wsX1_mustKeepOrder : List Cond := .code yX1_mustKeepOrder cX1_mustKeepOrder 3 (some .boolean) :: ([.fieldLink RX1 9 "ShareDisk$Requests" "owner" "[I", .fieldLink RX1 15 "ShareDisk$Requests" "write" "[Z", .fieldLink RX1 19 "ShareDisk$Requests" "first" "[I", .fieldLink RX1 22 "ShareDisk$Requests" "size" "[I"] ++ wsX10)
def wsX1_add : List Cond := .code yX1_add cX1_add 9 (some .int) :: ([.fieldLink RX1 41 "ShareDisk$Requests" "tickets" "I", .fieldLink RX1 9 "ShareDisk$Requests" "owner" "[I", .fieldLink RX1 15 "ShareDisk$Requests" "write" "[Z", .fieldLink RX1 19 "ShareDisk$Requests" "first" "[I", .fieldLink RX1 22 "ShareDisk$Requests" "size" "[I", .fieldLink RX1 25 "ShareDisk$Requests" "deadline" "[J", .fieldLink RX1 29 "ShareDisk$Requests" "waits" "[Z", .fieldLink RX1 32 "ShareDisk$Requests" "blockers" "[I", .methodLink RX1 51 yX1_mustKeepOrder, .instanceMethod yX1_mustKeepOrder, .selects RX1 yX1_mustKeepOrder yX1_mustKeepOrder, .initialized RX1, .code yX1_mustKeepOrder cX1_mustKeepOrder 3 (some .boolean)] ++ wsX10)
def wsX1_markServed : List Cond := .code yX1_markServed cX1_markServed 4 none :: ([.fieldLink RX1 29 "ShareDisk$Requests" "waits" "[Z", .fieldLink RX1 35 "ShareDisk$Requests" "servedHow" "[I", .fieldLink RX1 38 "ShareDisk$Requests" "servedOrder" "[I", .fieldLink RX1 45 "ShareDisk$Requests" "served" "I", .fieldLink RX1 48 "ShareDisk$Requests" "urgent" "I", .fieldLink RX1 41 "ShareDisk$Requests" "tickets" "I", .fieldLink RX1 32 "ShareDisk$Requests" "blockers" "[I", .methodLink RX1 51 yX1_mustKeepOrder, .instanceMethod yX1_mustKeepOrder, .selects RX1 yX1_mustKeepOrder yX1_mustKeepOrder, .initialized RX1, .code yX1_mustKeepOrder cX1_mustKeepOrder 3 (some .boolean), .fieldLink RX1 9 "ShareDisk$Requests" "owner" "[I", .fieldLink RX1 15 "ShareDisk$Requests" "write" "[Z", .fieldLink RX1 19 "ShareDisk$Requests" "first" "[I", .fieldLink RX1 22 "ShareDisk$Requests" "size" "[I"] ++ wsX10)
def wsX1_mostUrgent : List Cond := .code yX1_mostUrgent cX1_mostUrgent 5 (some .int) :: ([.fieldLink RX1 41 "ShareDisk$Requests" "tickets" "I", .fieldLink RX1 25 "ShareDisk$Requests" "deadline" "[J", .methodLink RX1 55 yX1_stateOf, .instanceMethod yX1_stateOf, .selects RX1 yX1_stateOf yX1_stateOf, .initialized RX1, .code yX1_stateOf cX1_stateOf 2 (some .int), .fieldLink RX1 29 "ShareDisk$Requests" "waits" "[Z", .fieldLink RX1 35 "ShareDisk$Requests" "servedHow" "[I", .fieldLink RX1 32 "ShareDisk$Requests" "blockers" "[I"] ++ wsX10)
def wsX1_turnOf : List Cond := .code yX1_turnOf cX1_turnOf 3 (some .int) :: ([.fieldLink RX1 19 "ShareDisk$Requests" "first" "[I", .constant RX1 63 (100000)] ++ wsX10)
def wsX1_nextAlong : List Cond := .code yX1_nextAlong cX1_nextAlong 5 (some .int) :: ([.fieldLink RX1 41 "ShareDisk$Requests" "tickets" "I", .fieldLink RX1 9 "ShareDisk$Requests" "owner" "[I", .methodLink RX1 55 yX1_stateOf, .instanceMethod yX1_stateOf, .selects RX1 yX1_stateOf yX1_stateOf, .initialized RX1, .code yX1_stateOf cX1_stateOf 2 (some .int), .fieldLink RX1 29 "ShareDisk$Requests" "waits" "[Z", .fieldLink RX1 35 "ShareDisk$Requests" "servedHow" "[I", .fieldLink RX1 32 "ShareDisk$Requests" "blockers" "[I", .methodLink RX1 59 yX1_turnOf, .instanceMethod yX1_turnOf, .selects RX1 yX1_turnOf yX1_turnOf, .code yX1_turnOf cX1_turnOf 3 (some .int), .fieldLink RX1 19 "ShareDisk$Requests" "first" "[I", .constant RX1 63 (100000)] ++ wsX10)
def wsX2_init_r1 : List Cond := [Cond.methodLink RX2 1 objectInit, Cond.instanceMethod objectInit, Cond.code objectInit ⟨#[0xb1]⟩ 1 none, Cond.classLink RX2 7 RX0, Cond.instantiable RX0 7, Cond.initialized RX0, Cond.fieldLink RX2 10 "ShareDisk" "clients" "LShareDisk$Clients;", Cond.classLink RX2 16 RX1, Cond.instantiable RX1 12, Cond.initialized RX1, Cond.fieldLink RX2 19 "ShareDisk" "requests" "LShareDisk$Requests;", Cond.fieldLink RX2 23 "ShareDisk" "sliceOwner" "I", Cond.instanceMethod yX0_init, Cond.code yX0_init cX0_init 1 none, Cond.methodLink RX0 3 objectInit, Cond.arrayClass .boolean, Cond.fieldLink RX0 9 "ShareDisk$Clients" "there" "[Z", Cond.arrayClass .int, Cond.fieldLink RX0 15 "ShareDisk$Clients" "sectorCost" "[I", Cond.fieldLink RX0 19 "ShareDisk$Clients" "budget" "[I", Cond.arrayClass .long, Cond.fieldLink RX0 22 "ShareDisk$Clients" "tag" "[J", Cond.fieldLink RX0 26 "ShareDisk$Clients" "waiting" "[I", Cond.fieldLink RX0 29 "ShareDisk$Clients" "sectors" "[I"]
def wsX2_init_r2 : List Cond := [Cond.classLink RX0 32 "[[J", Cond.fieldLink RX0 34 "ShareDisk$Clients" "lead" "[[J", Cond.instanceMethod yX1_init, Cond.code yX1_init cX1_init 1 none, Cond.methodLink RX1 3 objectInit, Cond.fieldLink RX1 9 "ShareDisk$Requests" "owner" "[I", Cond.fieldLink RX1 15 "ShareDisk$Requests" "write" "[Z", Cond.fieldLink RX1 19 "ShareDisk$Requests" "first" "[I", Cond.fieldLink RX1 22 "ShareDisk$Requests" "size" "[I", Cond.fieldLink RX1 25 "ShareDisk$Requests" "deadline" "[J", Cond.fieldLink RX1 29 "ShareDisk$Requests" "waits" "[Z", Cond.fieldLink RX1 32 "ShareDisk$Requests" "blockers" "[I", Cond.fieldLink RX1 35 "ShareDisk$Requests" "servedHow" "[I", Cond.fieldLink RX1 38 "ShareDisk$Requests" "servedOrder" "[I"]
def wsX2_init : List Cond := .code yX2_init cX2_init 1 none :: ((wsX2_init_r1 ++ wsX2_init_r2) ++ wsX00 ++ wsX20 ++ wsX10)
def wsX2_isWithin : List Cond := .code yX2_isWithin cX2_isWithin 3 (some .boolean) :: ([])
def wsX2_client_r1 : List Cond := [Cond.classLink RX2 31 "java/lang/IllegalArgumentException", Cond.initialized "java/lang/IllegalArgumentException", Cond.fieldLink RX2 10 "ShareDisk" "clients" "LShareDisk$Clients;", Cond.fieldLink RX2 38 "ShareDisk" "systemTag" "J", Cond.methodLink RX2 27 yX2_isWithin, Cond.static yX2_isWithin, Cond.initialized RX2, Cond.code yX2_isWithin cX2_isWithin 3 (some .boolean), Cond.methodLink RX2 34 yX0_isThere, Cond.instanceMethod yX0_isThere, Cond.selects RX0 yX0_isThere yX0_isThere, Cond.initialized RX0, Cond.code yX0_isThere cX0_isThere 2 (some .boolean), Cond.fieldLink RX0 9 "ShareDisk$Clients" "there" "[Z", Cond.methodLink RX2 42 yX0_enter, Cond.instanceMethod yX0_enter, Cond.selects RX0 yX0_enter yX0_enter, Cond.code yX0_enter cX0_enter 4 none, Cond.fieldLink RX0 22 "ShareDisk$Clients" "tag" "[J", Cond.methodLink RX2 46 yX0_setShare, Cond.instanceMethod yX0_setShare, Cond.selects RX0 yX0_setShare yX0_setShare, Cond.code yX0_setShare cX0_setShare 4 none, Cond.fieldLink RX0 15 "ShareDisk$Clients" "sectorCost" "[I"]
def wsX2_client_r2 : List Cond := [Cond.fieldLink RX0 19 "ShareDisk$Clients" "budget" "[I"]
def wsX2_client : List Cond := .code yX2_client cX2_client 4 none :: ((wsX2_client_r1 ++ wsX2_client_r2) ++ wsX20 ++ wsX00 ++ (vx_at0 RX2 33 "java/lang/IllegalArgumentException" ["java/lang/RuntimeException", "java/lang/Exception"]).filter goodWord)
def wsX2_requireThere : List Cond := .code yX2_requireThere cX2_requireThere 2 none :: ([.classLink RX2 31 "java/lang/IllegalArgumentException", .initialized "java/lang/IllegalArgumentException", .fieldLink RX2 10 "ShareDisk" "clients" "LShareDisk$Clients;", .methodLink RX2 27 yX2_isWithin, .static yX2_isWithin, .initialized RX2, .code yX2_isWithin cX2_isWithin 3 (some .boolean), .methodLink RX2 34 yX0_isThere, .instanceMethod yX0_isThere, .selects RX0 yX0_isThere yX0_isThere, .initialized RX0, .code yX0_isThere cX0_isThere 2 (some .boolean), .fieldLink RX0 9 "ShareDisk$Clients" "there" "[Z"] ++ wsX20 ++ wsX00 ++ (vx_at0 RX2 33 "java/lang/IllegalArgumentException" ["java/lang/RuntimeException", "java/lang/Exception"]).filter goodWord)
def wsX2_endSlice : List Cond := .code yX2_endSlice cX2_endSlice 1 none :: ([.fieldLink RX2 23 "ShareDisk" "sliceOwner" "I", .fieldLink RX2 146 "ShareDisk" "sliceLeft" "I"] ++ wsX20)
def wsX2_gone_r1 : List Cond := [Cond.classLink RX2 58 "java/lang/IllegalStateException", Cond.initialized "java/lang/IllegalStateException", Cond.fieldLink RX2 10 "ShareDisk" "clients" "LShareDisk$Clients;", Cond.fieldLink RX2 23 "ShareDisk" "sliceOwner" "I", Cond.methodLink RX2 50 yX2_requireThere, Cond.instanceMethod yX2_requireThere, Cond.selects RX2 yX2_requireThere yX2_requireThere, Cond.initialized RX2, Cond.code yX2_requireThere cX2_requireThere 2 none, Cond.classLink RX2 31 "java/lang/IllegalArgumentException", Cond.initialized "java/lang/IllegalArgumentException", Cond.methodLink RX2 27 yX2_isWithin, Cond.static yX2_isWithin, Cond.code yX2_isWithin cX2_isWithin 3 (some .boolean), Cond.methodLink RX2 34 yX0_isThere, Cond.instanceMethod yX0_isThere, Cond.selects RX0 yX0_isThere yX0_isThere, Cond.initialized RX0, Cond.code yX0_isThere cX0_isThere 2 (some .boolean), Cond.fieldLink RX0 9 "ShareDisk$Clients" "there" "[Z", Cond.methodLink RX2 54 yX0_waitingOf, Cond.instanceMethod yX0_waitingOf, Cond.selects RX0 yX0_waitingOf yX0_waitingOf, Cond.code yX0_waitingOf cX0_waitingOf 2 (some .int)]
def wsX2_gone_r2 : List Cond := [Cond.fieldLink RX0 26 "ShareDisk$Clients" "waiting" "[I", Cond.methodLink RX2 61 yX0_leave, Cond.instanceMethod yX0_leave, Cond.selects RX0 yX0_leave yX0_leave, Cond.code yX0_leave cX0_leave 2 none, Cond.fieldLink RX0 29 "ShareDisk$Clients" "sectors" "[I", Cond.methodLink RX2 64 yX2_endSlice, Cond.instanceMethod yX2_endSlice, Cond.selects RX2 yX2_endSlice yX2_endSlice, Cond.code yX2_endSlice cX2_endSlice 1 none, Cond.fieldLink RX2 146 "ShareDisk" "sliceLeft" "I"]
def wsX2_gone : List Cond := .code yX2_gone cX2_gone 2 none :: ((wsX2_gone_r1 ++ wsX2_gone_r2) ++ wsX20 ++ wsX00 ++ (vx_at0 RX2 60 "java/lang/IllegalStateException" ["java/lang/RuntimeException", "java/lang/Exception"]).filter goodWord ++ (vx_at0 RX2 33 "java/lang/IllegalArgumentException" ["java/lang/RuntimeException", "java/lang/Exception"]).filter goodWord)
def wsX2_areOnDisk : List Cond := .code yX2_areOnDisk cX2_areOnDisk 2 (some .boolean) :: ([.constant RX2 151 (100000), .methodLink RX2 27 yX2_isWithin, .static yX2_isWithin, .initialized RX2, .code yX2_isWithin cX2_isWithin 3 (some .boolean)])
def wsX2_submit_r1 : List Cond := [Cond.classLink RX2 31 "java/lang/IllegalArgumentException", Cond.initialized "java/lang/IllegalArgumentException", Cond.constant RX2 71 (1000000), Cond.fieldLink RX2 10 "ShareDisk" "clients" "LShareDisk$Clients;", Cond.fieldLink RX2 19 "ShareDisk" "requests" "LShareDisk$Requests;", Cond.fieldLink RX2 38 "ShareDisk" "systemTag" "J", Cond.fieldLink RX2 79 "ShareDisk" "clock" "J", Cond.methodLink RX2 50 yX2_requireThere, Cond.instanceMethod yX2_requireThere, Cond.selects RX2 yX2_requireThere yX2_requireThere, Cond.initialized RX2, Cond.code yX2_requireThere cX2_requireThere 2 none, Cond.methodLink RX2 27 yX2_isWithin, Cond.static yX2_isWithin, Cond.code yX2_isWithin cX2_isWithin 3 (some .boolean), Cond.methodLink RX2 34 yX0_isThere, Cond.instanceMethod yX0_isThere, Cond.selects RX0 yX0_isThere yX0_isThere, Cond.initialized RX0, Cond.code yX0_isThere cX0_isThere 2 (some .boolean), Cond.fieldLink RX0 9 "ShareDisk$Clients" "there" "[Z", Cond.methodLink RX2 67 yX2_areOnDisk, Cond.static yX2_areOnDisk, Cond.code yX2_areOnDisk cX2_areOnDisk 2 (some .boolean)]
def wsX2_submit_r2 : List Cond := [Cond.constant RX2 151 (100000), Cond.methodLink RX2 54 yX0_waitingOf, Cond.instanceMethod yX0_waitingOf, Cond.selects RX0 yX0_waitingOf yX0_waitingOf, Cond.code yX0_waitingOf cX0_waitingOf 2 (some .int), Cond.fieldLink RX0 26 "ShareDisk$Clients" "waiting" "[I", Cond.methodLink RX2 72 yX1_isFull, Cond.instanceMethod yX1_isFull, Cond.selects RX1 yX1_isFull yX1_isFull, Cond.initialized RX1, Cond.code yX1_isFull cX1_isFull 1 (some .boolean), Cond.fieldLink RX1 41 "ShareDisk$Requests" "tickets" "I", Cond.methodLink RX2 76 yX0_noteRequest, Cond.instanceMethod yX0_noteRequest, Cond.selects RX0 yX0_noteRequest yX0_noteRequest, Cond.code yX0_noteRequest cX0_noteRequest 4 none, Cond.fieldLink RX0 22 "ShareDisk$Clients" "tag" "[J", Cond.methodLink RX0 37 Lib.MathLoose.max_long.x, Cond.static Lib.MathLoose.max_long.x, Cond.initialized "java/lang/Math", Cond.code Lib.MathLoose.max_long.x Lib.MathLoose.max_long.code 4 (some .long), Cond.methodLink RX0 43 yX0_forgetLead, Cond.instanceMethod yX0_forgetLead, Cond.selects RX0 yX0_forgetLead yX0_forgetLead]
def wsX2_submit_r3 : List Cond := [Cond.code yX0_forgetLead cX0_forgetLead 3 none, Cond.fieldLink RX0 34 "ShareDisk$Clients" "lead" "[[J", Cond.methodLink RX2 82 yX1_add, Cond.instanceMethod yX1_add, Cond.selects RX1 yX1_add yX1_add, Cond.code yX1_add cX1_add 9 (some .int), Cond.fieldLink RX1 9 "ShareDisk$Requests" "owner" "[I", Cond.fieldLink RX1 15 "ShareDisk$Requests" "write" "[Z", Cond.fieldLink RX1 19 "ShareDisk$Requests" "first" "[I", Cond.fieldLink RX1 22 "ShareDisk$Requests" "size" "[I", Cond.fieldLink RX1 25 "ShareDisk$Requests" "deadline" "[J", Cond.fieldLink RX1 29 "ShareDisk$Requests" "waits" "[Z", Cond.fieldLink RX1 32 "ShareDisk$Requests" "blockers" "[I", Cond.methodLink RX1 51 yX1_mustKeepOrder, Cond.instanceMethod yX1_mustKeepOrder, Cond.selects RX1 yX1_mustKeepOrder yX1_mustKeepOrder, Cond.code yX1_mustKeepOrder cX1_mustKeepOrder 3 (some .boolean)]
def wsX2_submit : List Cond := .code yX2_submit cX2_submit 6 (some .int) :: ((wsX2_submit_r1 ++ (wsX2_submit_r2 ++ wsX2_submit_r3)) ++ wsX20 ++ wsX00 ++ wsX10 ++ (vx_at0 RX2 33 "java/lang/IllegalArgumentException" ["java/lang/RuntimeException", "java/lang/Exception"]).filter goodWord)
def wsX2_moveHead : List Cond := .code yX2_moveHead cX2_moveHead 4 none :: ([.fieldLink RX2 97 "ShareDisk" "head" "I", .methodLink RX2 183 Lib.Math.abs.name, .static Lib.Math.abs.name, .initialized "java/lang/Math", .code Lib.Math.abs.name Lib.Math.abs.code 1 (some .int), .fieldLink RX2 143 "ShareDisk" "passedOver" "J", .fieldLink RX2 79 "ShareDisk" "clock" "J"] ++ wsX20)
def wsX2_takeFromSlice : List Cond := .code yX2_takeFromSlice cX2_takeFromSlice 2 none :: ([.fieldLink RX2 146 "ShareDisk" "sliceLeft" "I", .fieldLink RX2 10 "ShareDisk" "clients" "LShareDisk$Clients;", .fieldLink RX2 23 "ShareDisk" "sliceOwner" "I", .methodLink RX2 54 yX0_waitingOf, .instanceMethod yX0_waitingOf, .selects RX0 yX0_waitingOf yX0_waitingOf, .initialized RX0, .code yX0_waitingOf cX0_waitingOf 2 (some .int), .fieldLink RX0 26 "ShareDisk$Clients" "waiting" "[I", .methodLink RX2 64 yX2_endSlice, .instanceMethod yX2_endSlice, .selects RX2 yX2_endSlice yX2_endSlice, .initialized RX2, .code yX2_endSlice cX2_endSlice 1 none] ++ wsX20 ++ wsX00)
def wsX2_serve_r1 : List Cond := [Cond.fieldLink RX2 19 "ShareDisk" "requests" "LShareDisk$Requests;", Cond.fieldLink RX2 10 "ShareDisk" "clients" "LShareDisk$Clients;", Cond.fieldLink RX2 23 "ShareDisk" "sliceOwner" "I", Cond.fieldLink RX2 38 "ShareDisk" "systemTag" "J", Cond.methodLink RX2 158 yX1_ownerOf, Cond.instanceMethod yX1_ownerOf, Cond.selects RX1 yX1_ownerOf yX1_ownerOf, Cond.initialized RX1, Cond.code yX1_ownerOf cX1_ownerOf 2 (some .int), Cond.fieldLink RX1 9 "ShareDisk$Requests" "owner" "[I", Cond.methodLink RX2 161 yX1_sizeOf, Cond.instanceMethod yX1_sizeOf, Cond.selects RX1 yX1_sizeOf yX1_sizeOf, Cond.code yX1_sizeOf cX1_sizeOf 2 (some .int), Cond.fieldLink RX1 22 "ShareDisk$Requests" "size" "[I", Cond.methodLink RX2 164 yX1_firstOf, Cond.instanceMethod yX1_firstOf, Cond.selects RX1 yX1_firstOf yX1_firstOf, Cond.code yX1_firstOf cX1_firstOf 2 (some .int), Cond.fieldLink RX1 19 "ShareDisk$Requests" "first" "[I", Cond.methodLink RX2 167 yX2_moveHead, Cond.instanceMethod yX2_moveHead, Cond.selects RX2 yX2_moveHead yX2_moveHead, Cond.initialized RX2]
def wsX2_serve_r2 : List Cond := [Cond.code yX2_moveHead cX2_moveHead 4 none, Cond.fieldLink RX2 97 "ShareDisk" "head" "I", Cond.methodLink RX2 183 Lib.Math.abs.name, Cond.static Lib.Math.abs.name, Cond.initialized "java/lang/Math", Cond.code Lib.Math.abs.name Lib.Math.abs.code 1 (some .int), Cond.fieldLink RX2 143 "ShareDisk" "passedOver" "J", Cond.fieldLink RX2 79 "ShareDisk" "clock" "J", Cond.methodLink RX2 170 yX1_markServed, Cond.instanceMethod yX1_markServed, Cond.selects RX1 yX1_markServed yX1_markServed, Cond.code yX1_markServed cX1_markServed 4 none, Cond.fieldLink RX1 29 "ShareDisk$Requests" "waits" "[Z", Cond.fieldLink RX1 35 "ShareDisk$Requests" "servedHow" "[I", Cond.fieldLink RX1 38 "ShareDisk$Requests" "servedOrder" "[I", Cond.fieldLink RX1 45 "ShareDisk$Requests" "served" "I", Cond.fieldLink RX1 48 "ShareDisk$Requests" "urgent" "I", Cond.fieldLink RX1 41 "ShareDisk$Requests" "tickets" "I", Cond.fieldLink RX1 32 "ShareDisk$Requests" "blockers" "[I", Cond.methodLink RX1 51 yX1_mustKeepOrder, Cond.instanceMethod yX1_mustKeepOrder, Cond.selects RX1 yX1_mustKeepOrder yX1_mustKeepOrder, Cond.code yX1_mustKeepOrder cX1_mustKeepOrder 3 (some .boolean), Cond.fieldLink RX1 15 "ShareDisk$Requests" "write" "[Z"]
def wsX2_serve_r3 : List Cond := [Cond.methodLink RX2 173 yX0_noteService, Cond.instanceMethod yX0_noteService, Cond.selects RX0 yX0_noteService yX0_noteService, Cond.initialized RX0, Cond.code yX0_noteService cX0_noteService 6 none, Cond.fieldLink RX0 15 "ShareDisk$Clients" "sectorCost" "[I", Cond.fieldLink RX0 22 "ShareDisk$Clients" "tag" "[J", Cond.fieldLink RX0 29 "ShareDisk$Clients" "sectors" "[I", Cond.fieldLink RX0 26 "ShareDisk$Clients" "waiting" "[I", Cond.fieldLink RX0 34 "ShareDisk$Clients" "lead" "[[J", Cond.methodLink RX2 176 yX2_takeFromSlice, Cond.instanceMethod yX2_takeFromSlice, Cond.selects RX2 yX2_takeFromSlice yX2_takeFromSlice, Cond.code yX2_takeFromSlice cX2_takeFromSlice 2 none, Cond.fieldLink RX2 146 "ShareDisk" "sliceLeft" "I", Cond.methodLink RX2 54 yX0_waitingOf, Cond.instanceMethod yX0_waitingOf, Cond.selects RX0 yX0_waitingOf yX0_waitingOf, Cond.code yX0_waitingOf cX0_waitingOf 2 (some .int), Cond.methodLink RX2 64 yX2_endSlice, Cond.instanceMethod yX2_endSlice, Cond.selects RX2 yX2_endSlice yX2_endSlice, Cond.code yX2_endSlice cX2_endSlice 1 none, Cond.methodLink RX2 134 yX1_waiting]
def wsX2_serve_r4 : List Cond := [Cond.instanceMethod yX1_waiting, Cond.selects RX1 yX1_waiting yX1_waiting, Cond.code yX1_waiting cX1_waiting 1 (some .int), Cond.methodLink RX2 179 yX0_greatestTag, Cond.instanceMethod yX0_greatestTag, Cond.selects RX0 yX0_greatestTag yX0_greatestTag, Cond.code yX0_greatestTag cX0_greatestTag 6 (some .long), Cond.fieldLink RX0 9 "ShareDisk$Clients" "there" "[Z", Cond.methodLink RX0 37 Lib.MathLoose.max_long.x, Cond.static Lib.MathLoose.max_long.x, Cond.code Lib.MathLoose.max_long.x Lib.MathLoose.max_long.code 4 (some .long)]
def wsX2_serve : List Cond := .code yX2_serve cX2_serve 5 none :: ((wsX2_serve_r1 ++ (wsX2_serve_r2 ++ (wsX2_serve_r3 ++ wsX2_serve_r4))) ++ wsX20 ++ wsX10 ++ wsX00)
def wsX2_beginSlice : List Cond := .code yX2_beginSlice cX2_beginSlice 2 none :: ([.fieldLink RX2 10 "ShareDisk" "clients" "LShareDisk$Clients;", .fieldLink RX2 23 "ShareDisk" "sliceOwner" "I", .fieldLink RX2 146 "ShareDisk" "sliceLeft" "I", .fieldLink RX2 38 "ShareDisk" "systemTag" "J", .methodLink RX2 152 yX0_nextInTurn, .instanceMethod yX0_nextInTurn, .selects RX0 yX0_nextInTurn yX0_nextInTurn, .initialized RX0, .code yX0_nextInTurn cX0_nextInTurn 3 (some .int), .fieldLink RX0 26 "ShareDisk$Clients" "waiting" "[I", .fieldLink RX0 22 "ShareDisk$Clients" "tag" "[J", .methodLink RX2 155 yX0_budgetOf, .instanceMethod yX0_budgetOf, .selects RX0 yX0_budgetOf yX0_budgetOf, .code yX0_budgetOf cX0_budgetOf 2 (some .int), .fieldLink RX0 19 "ShareDisk$Clients" "budget" "[I", .methodLink RX2 116 yX0_tagOf, .instanceMethod yX0_tagOf, .selects RX0 yX0_tagOf yX0_tagOf, .code yX0_tagOf cX0_tagOf 2 (some .long)] ++ wsX20 ++ wsX00)
def wsX2_dispatch_r1 : List Cond := [Cond.fieldLink RX2 19 "ShareDisk" "requests" "LShareDisk$Requests;", Cond.fieldLink RX2 79 "ShareDisk" "clock" "J", Cond.fieldLink RX2 23 "ShareDisk" "sliceOwner" "I", Cond.fieldLink RX2 97 "ShareDisk" "head" "I", Cond.methodLink RX2 86 yX1_mostUrgent, Cond.instanceMethod yX1_mostUrgent, Cond.selects RX1 yX1_mostUrgent yX1_mostUrgent, Cond.initialized RX1, Cond.code yX1_mostUrgent cX1_mostUrgent 5 (some .int), Cond.fieldLink RX1 41 "ShareDisk$Requests" "tickets" "I", Cond.fieldLink RX1 25 "ShareDisk$Requests" "deadline" "[J", Cond.methodLink RX1 55 yX1_stateOf, Cond.instanceMethod yX1_stateOf, Cond.selects RX1 yX1_stateOf yX1_stateOf, Cond.code yX1_stateOf cX1_stateOf 2 (some .int), Cond.fieldLink RX1 29 "ShareDisk$Requests" "waits" "[Z", Cond.fieldLink RX1 35 "ShareDisk$Requests" "servedHow" "[I", Cond.fieldLink RX1 32 "ShareDisk$Requests" "blockers" "[I", Cond.methodLink RX2 90 yX2_serve, Cond.instanceMethod yX2_serve, Cond.selects RX2 yX2_serve yX2_serve, Cond.initialized RX2, Cond.code yX2_serve cX2_serve 5 none, Cond.fieldLink RX2 10 "ShareDisk" "clients" "LShareDisk$Clients;"]
def wsX2_dispatch_r2 : List Cond := [Cond.fieldLink RX2 38 "ShareDisk" "systemTag" "J", Cond.methodLink RX2 158 yX1_ownerOf, Cond.instanceMethod yX1_ownerOf, Cond.selects RX1 yX1_ownerOf yX1_ownerOf, Cond.code yX1_ownerOf cX1_ownerOf 2 (some .int), Cond.fieldLink RX1 9 "ShareDisk$Requests" "owner" "[I", Cond.methodLink RX2 161 yX1_sizeOf, Cond.instanceMethod yX1_sizeOf, Cond.selects RX1 yX1_sizeOf yX1_sizeOf, Cond.code yX1_sizeOf cX1_sizeOf 2 (some .int), Cond.fieldLink RX1 22 "ShareDisk$Requests" "size" "[I", Cond.methodLink RX2 164 yX1_firstOf, Cond.instanceMethod yX1_firstOf, Cond.selects RX1 yX1_firstOf yX1_firstOf, Cond.code yX1_firstOf cX1_firstOf 2 (some .int), Cond.fieldLink RX1 19 "ShareDisk$Requests" "first" "[I", Cond.methodLink RX2 167 yX2_moveHead, Cond.instanceMethod yX2_moveHead, Cond.selects RX2 yX2_moveHead yX2_moveHead, Cond.code yX2_moveHead cX2_moveHead 4 none, Cond.methodLink RX2 183 Lib.Math.abs.name, Cond.static Lib.Math.abs.name, Cond.initialized "java/lang/Math", Cond.code Lib.Math.abs.name Lib.Math.abs.code 1 (some .int)]
def wsX2_dispatch_r3 : List Cond := [Cond.fieldLink RX2 143 "ShareDisk" "passedOver" "J", Cond.methodLink RX2 170 yX1_markServed, Cond.instanceMethod yX1_markServed, Cond.selects RX1 yX1_markServed yX1_markServed, Cond.code yX1_markServed cX1_markServed 4 none, Cond.fieldLink RX1 38 "ShareDisk$Requests" "servedOrder" "[I", Cond.fieldLink RX1 45 "ShareDisk$Requests" "served" "I", Cond.fieldLink RX1 48 "ShareDisk$Requests" "urgent" "I", Cond.methodLink RX1 51 yX1_mustKeepOrder, Cond.instanceMethod yX1_mustKeepOrder, Cond.selects RX1 yX1_mustKeepOrder yX1_mustKeepOrder, Cond.code yX1_mustKeepOrder cX1_mustKeepOrder 3 (some .boolean), Cond.fieldLink RX1 15 "ShareDisk$Requests" "write" "[Z", Cond.methodLink RX2 173 yX0_noteService, Cond.instanceMethod yX0_noteService, Cond.selects RX0 yX0_noteService yX0_noteService, Cond.initialized RX0, Cond.code yX0_noteService cX0_noteService 6 none, Cond.fieldLink RX0 15 "ShareDisk$Clients" "sectorCost" "[I", Cond.fieldLink RX0 22 "ShareDisk$Clients" "tag" "[J", Cond.fieldLink RX0 29 "ShareDisk$Clients" "sectors" "[I", Cond.fieldLink RX0 26 "ShareDisk$Clients" "waiting" "[I", Cond.fieldLink RX0 34 "ShareDisk$Clients" "lead" "[[J", Cond.methodLink RX2 176 yX2_takeFromSlice]
def wsX2_dispatch_r4 : List Cond := [Cond.instanceMethod yX2_takeFromSlice, Cond.selects RX2 yX2_takeFromSlice yX2_takeFromSlice, Cond.code yX2_takeFromSlice cX2_takeFromSlice 2 none, Cond.fieldLink RX2 146 "ShareDisk" "sliceLeft" "I", Cond.methodLink RX2 54 yX0_waitingOf, Cond.instanceMethod yX0_waitingOf, Cond.selects RX0 yX0_waitingOf yX0_waitingOf, Cond.code yX0_waitingOf cX0_waitingOf 2 (some .int), Cond.methodLink RX2 64 yX2_endSlice, Cond.instanceMethod yX2_endSlice, Cond.selects RX2 yX2_endSlice yX2_endSlice, Cond.code yX2_endSlice cX2_endSlice 1 none, Cond.methodLink RX2 134 yX1_waiting, Cond.instanceMethod yX1_waiting, Cond.selects RX1 yX1_waiting yX1_waiting, Cond.code yX1_waiting cX1_waiting 1 (some .int), Cond.methodLink RX2 179 yX0_greatestTag, Cond.instanceMethod yX0_greatestTag, Cond.selects RX0 yX0_greatestTag yX0_greatestTag, Cond.code yX0_greatestTag cX0_greatestTag 6 (some .long), Cond.fieldLink RX0 9 "ShareDisk$Clients" "there" "[Z", Cond.methodLink RX0 37 Lib.MathLoose.max_long.x, Cond.static Lib.MathLoose.max_long.x, Cond.code Lib.MathLoose.max_long.x Lib.MathLoose.max_long.code 4 (some .long)]
def wsX2_dispatch_r5 : List Cond := [Cond.methodLink RX2 94 yX2_beginSlice, Cond.instanceMethod yX2_beginSlice, Cond.selects RX2 yX2_beginSlice yX2_beginSlice, Cond.code yX2_beginSlice cX2_beginSlice 2 none, Cond.methodLink RX2 152 yX0_nextInTurn, Cond.instanceMethod yX0_nextInTurn, Cond.selects RX0 yX0_nextInTurn yX0_nextInTurn, Cond.code yX0_nextInTurn cX0_nextInTurn 3 (some .int), Cond.methodLink RX2 155 yX0_budgetOf, Cond.instanceMethod yX0_budgetOf, Cond.selects RX0 yX0_budgetOf yX0_budgetOf, Cond.code yX0_budgetOf cX0_budgetOf 2 (some .int), Cond.fieldLink RX0 19 "ShareDisk$Clients" "budget" "[I", Cond.methodLink RX2 116 yX0_tagOf, Cond.instanceMethod yX0_tagOf, Cond.selects RX0 yX0_tagOf yX0_tagOf, Cond.code yX0_tagOf cX0_tagOf 2 (some .long), Cond.methodLink RX2 100 yX1_nextAlong, Cond.instanceMethod yX1_nextAlong, Cond.selects RX1 yX1_nextAlong yX1_nextAlong, Cond.code yX1_nextAlong cX1_nextAlong 5 (some .int), Cond.methodLink RX1 59 yX1_turnOf, Cond.instanceMethod yX1_turnOf, Cond.selects RX1 yX1_turnOf yX1_turnOf]
def wsX2_dispatch_r6 : List Cond := [Cond.code yX1_turnOf cX1_turnOf 3 (some .int), Cond.constant RX1 63 (100000)]
def wsX2_dispatch : List Cond := .code yX2_dispatch cX2_dispatch 3 (some .int) :: ((wsX2_dispatch_r1 ++ (wsX2_dispatch_r2 ++ (wsX2_dispatch_r3 ++ (wsX2_dispatch_r4 ++ (wsX2_dispatch_r5 ++ wsX2_dispatch_r6))))) ++ wsX20 ++ wsX10 ++ wsX00)
def wsX2_pass : List Cond := .code yX2_pass cX2_pass 2 (some .long) :: ([.classLink RX2 31 "java/lang/IllegalArgumentException", .initialized "java/lang/IllegalArgumentException", .constant RX2 71 (1000000), .fieldLink RX2 79 "ShareDisk" "clock" "J", .methodLink RX2 27 yX2_isWithin, .static yX2_isWithin, .initialized RX2, .code yX2_isWithin cX2_isWithin 3 (some .boolean)] ++ wsX20 ++ (vx_at0 RX2 33 "java/lang/IllegalArgumentException" ["java/lang/RuntimeException", "java/lang/Exception"]).filter goodWord)
def wsX2_state : List Cond := .code yX2_state cX2_state 2 (some .int) :: ([.classLink RX2 107 "java/lang/IndexOutOfBoundsException", .initialized "java/lang/IndexOutOfBoundsException", .fieldLink RX2 19 "ShareDisk" "requests" "LShareDisk$Requests;", .methodLink RX2 104 yX1_isTicket, .instanceMethod yX1_isTicket, .selects RX1 yX1_isTicket yX1_isTicket, .initialized RX1, .code yX1_isTicket cX1_isTicket 2 (some .boolean), .fieldLink RX1 41 "ShareDisk$Requests" "tickets" "I", .methodLink RX2 110 yX1_stateOf, .instanceMethod yX1_stateOf, .selects RX1 yX1_stateOf yX1_stateOf, .code yX1_stateOf cX1_stateOf 2 (some .int), .fieldLink RX1 29 "ShareDisk$Requests" "waits" "[Z", .fieldLink RX1 35 "ShareDisk$Requests" "servedHow" "[I", .fieldLink RX1 32 "ShareDisk$Requests" "blockers" "[I"] ++ wsX20 ++ wsX10 ++ (vx_at0 RX2 109 "java/lang/IndexOutOfBoundsException" ["java/lang/RuntimeException", "java/lang/Exception"]).filter goodWord)
def wsX2_order : List Cond := .code yX2_order cX2_order 2 (some .int) :: ([.fieldLink RX2 19 "ShareDisk" "requests" "LShareDisk$Requests;", .methodLink RX2 113 yX1_servedAt, .instanceMethod yX1_servedAt, .selects RX1 yX1_servedAt yX1_servedAt, .initialized RX1, .code yX1_servedAt cX1_servedAt 2 (some .int), .fieldLink RX1 45 "ShareDisk$Requests" "served" "I", .fieldLink RX1 38 "ShareDisk$Requests" "servedOrder" "[I"] ++ wsX20 ++ wsX10)
def wsX2_tag : List Cond := .code yX2_tag cX2_tag 2 (some .long) :: ([.fieldLink RX2 38 "ShareDisk" "systemTag" "J", .fieldLink RX2 10 "ShareDisk" "clients" "LShareDisk$Clients;", .methodLink RX2 50 yX2_requireThere, .instanceMethod yX2_requireThere, .selects RX2 yX2_requireThere yX2_requireThere, .initialized RX2, .code yX2_requireThere cX2_requireThere 2 none, .classLink RX2 31 "java/lang/IllegalArgumentException", .initialized "java/lang/IllegalArgumentException", .methodLink RX2 27 yX2_isWithin, .static yX2_isWithin, .code yX2_isWithin cX2_isWithin 3 (some .boolean), .methodLink RX2 34 yX0_isThere, .instanceMethod yX0_isThere, .selects RX0 yX0_isThere yX0_isThere, .initialized RX0, .code yX0_isThere cX0_isThere 2 (some .boolean), .fieldLink RX0 9 "ShareDisk$Clients" "there" "[Z", .methodLink RX2 116 yX0_tagOf, .instanceMethod yX0_tagOf, .selects RX0 yX0_tagOf yX0_tagOf, .code yX0_tagOf cX0_tagOf 2 (some .long), .fieldLink RX0 22 "ShareDisk$Clients" "tag" "[J"] ++ wsX20 ++ wsX00 ++ (vx_at0 RX2 33 "java/lang/IllegalArgumentException" ["java/lang/RuntimeException", "java/lang/Exception"]).filter goodWord)
def wsX2_lag : List Cond := .code yX2_lag cX2_lag 3 (some .long) :: ([.classLink RX2 31 "java/lang/IllegalArgumentException", .initialized "java/lang/IllegalArgumentException", .fieldLink RX2 10 "ShareDisk" "clients" "LShareDisk$Clients;", .methodLink RX2 50 yX2_requireThere, .instanceMethod yX2_requireThere, .selects RX2 yX2_requireThere yX2_requireThere, .initialized RX2, .code yX2_requireThere cX2_requireThere 2 none, .methodLink RX2 27 yX2_isWithin, .static yX2_isWithin, .code yX2_isWithin cX2_isWithin 3 (some .boolean), .methodLink RX2 34 yX0_isThere, .instanceMethod yX0_isThere, .selects RX0 yX0_isThere yX0_isThere, .initialized RX0, .code yX0_isThere cX0_isThere 2 (some .boolean), .fieldLink RX0 9 "ShareDisk$Clients" "there" "[Z", .methodLink RX2 120 yX0_leadOf, .instanceMethod yX0_leadOf, .selects RX0 yX0_leadOf yX0_leadOf, .code yX0_leadOf cX0_leadOf 3 (some .long), .fieldLink RX0 26 "ShareDisk$Clients" "waiting" "[I", .fieldLink RX0 34 "ShareDisk$Clients" "lead" "[[J"] ++ wsX20 ++ wsX00 ++ (vx_at0 RX2 33 "java/lang/IllegalArgumentException" ["java/lang/RuntimeException", "java/lang/Exception"]).filter goodWord)
def wsX2_countOfDisk_r1 : List Cond := [Cond.fieldLink RX2 10 "ShareDisk" "clients" "LShareDisk$Clients;", Cond.fieldLink RX2 19 "ShareDisk" "requests" "LShareDisk$Requests;", Cond.fieldLink RX2 97 "ShareDisk" "head" "I", Cond.fieldLink RX2 143 "ShareDisk" "passedOver" "J", Cond.fieldLink RX2 23 "ShareDisk" "sliceOwner" "I", Cond.fieldLink RX2 146 "ShareDisk" "sliceLeft" "I", Cond.constantLong RX2 149 (-1), Cond.methodLink RX2 130 yX0_howMany, Cond.instanceMethod yX0_howMany, Cond.selects RX0 yX0_howMany yX0_howMany, Cond.initialized RX0, Cond.code yX0_howMany cX0_howMany 3 (some .int), Cond.fieldLink RX0 9 "ShareDisk$Clients" "there" "[Z", Cond.methodLink RX2 134 yX1_waiting, Cond.instanceMethod yX1_waiting, Cond.selects RX1 yX1_waiting yX1_waiting, Cond.initialized RX1, Cond.code yX1_waiting cX1_waiting 1 (some .int), Cond.fieldLink RX1 41 "ShareDisk$Requests" "tickets" "I", Cond.fieldLink RX1 45 "ShareDisk$Requests" "served" "I", Cond.methodLink RX2 137 yX1_served, Cond.instanceMethod yX1_served, Cond.selects RX1 yX1_served yX1_served, Cond.code yX1_served cX1_served 1 (some .int)]
def wsX2_countOfDisk_r2 : List Cond := [Cond.methodLink RX2 140 yX1_urgent, Cond.instanceMethod yX1_urgent, Cond.selects RX1 yX1_urgent yX1_urgent, Cond.code yX1_urgent cX1_urgent 1 (some .int), Cond.fieldLink RX1 48 "ShareDisk$Requests" "urgent" "I"]
def wsX2_countOfDisk : List Cond := .code yX2_countOfDisk cX2_countOfDisk 2 (some .long) :: ((wsX2_countOfDisk_r1 ++ wsX2_countOfDisk_r2) ++ wsX20 ++ wsX00 ++ wsX10)
def wsX2_count_r1 : List Cond := [Cond.fieldLink RX2 10 "ShareDisk" "clients" "LShareDisk$Clients;", Cond.methodLink RX2 27 yX2_isWithin, Cond.static yX2_isWithin, Cond.initialized RX2, Cond.code yX2_isWithin cX2_isWithin 3 (some .boolean), Cond.methodLink RX2 124 yX0_sectorsOf, Cond.instanceMethod yX0_sectorsOf, Cond.selects RX0 yX0_sectorsOf yX0_sectorsOf, Cond.initialized RX0, Cond.code yX0_sectorsOf cX0_sectorsOf 2 (some .int), Cond.fieldLink RX0 29 "ShareDisk$Clients" "sectors" "[I", Cond.methodLink RX2 54 yX0_waitingOf, Cond.instanceMethod yX0_waitingOf, Cond.selects RX0 yX0_waitingOf yX0_waitingOf, Cond.code yX0_waitingOf cX0_waitingOf 2 (some .int), Cond.fieldLink RX0 26 "ShareDisk$Clients" "waiting" "[I", Cond.methodLink RX2 127 yX2_countOfDisk, Cond.instanceMethod yX2_countOfDisk, Cond.selects RX2 yX2_countOfDisk yX2_countOfDisk, Cond.code yX2_countOfDisk cX2_countOfDisk 2 (some .long), Cond.fieldLink RX2 19 "ShareDisk" "requests" "LShareDisk$Requests;", Cond.fieldLink RX2 97 "ShareDisk" "head" "I", Cond.fieldLink RX2 143 "ShareDisk" "passedOver" "J", Cond.fieldLink RX2 23 "ShareDisk" "sliceOwner" "I"]
def wsX2_count_r2 : List Cond := [Cond.fieldLink RX2 146 "ShareDisk" "sliceLeft" "I", Cond.constantLong RX2 149 (-1), Cond.methodLink RX2 130 yX0_howMany, Cond.instanceMethod yX0_howMany, Cond.selects RX0 yX0_howMany yX0_howMany, Cond.code yX0_howMany cX0_howMany 3 (some .int), Cond.fieldLink RX0 9 "ShareDisk$Clients" "there" "[Z", Cond.methodLink RX2 134 yX1_waiting, Cond.instanceMethod yX1_waiting, Cond.selects RX1 yX1_waiting yX1_waiting, Cond.initialized RX1, Cond.code yX1_waiting cX1_waiting 1 (some .int), Cond.fieldLink RX1 41 "ShareDisk$Requests" "tickets" "I", Cond.fieldLink RX1 45 "ShareDisk$Requests" "served" "I", Cond.methodLink RX2 137 yX1_served, Cond.instanceMethod yX1_served, Cond.selects RX1 yX1_served yX1_served, Cond.code yX1_served cX1_served 1 (some .int), Cond.methodLink RX2 140 yX1_urgent, Cond.instanceMethod yX1_urgent, Cond.selects RX1 yX1_urgent yX1_urgent, Cond.code yX1_urgent cX1_urgent 1 (some .int), Cond.fieldLink RX1 48 "ShareDisk$Requests" "urgent" "I"]
def wsX2_count : List Cond := .code yX2_count cX2_count 2 (some .long) :: ((wsX2_count_r1 ++ wsX2_count_r2) ++ wsX20 ++ wsX00 ++ wsX10)
def wsX3_init : List Cond := .code yX3_init cX3_init 1 none :: ([.methodLink RX3 1 objectInit, .instanceMethod objectInit, .code objectInit ⟨#[0xb1]⟩ 1 none, .arrayClass .boolean, .fieldLink RX3 7 "ShareDiskModel" "there" "[Z", .arrayClass .int, .fieldLink RX3 13 "ShareDiskModel" "weights" "[I", .fieldLink RX3 17 "ShareDiskModel" "budgets" "[I", .arrayClass .long, .fieldLink RX3 20 "ShareDiskModel" "tags" "[J", .fieldLink RX3 24 "ShareDiskModel" "sectors" "[J", .fieldLink RX3 27 "ShareDiskModel" "grown" "[J", .fieldLink RX3 30 "ShareDiskModel" "bases" "[J", .fieldLink RX3 33 "ShareDiskModel" "clientOf" "[I", .fieldLink RX3 36 "ShareDiskModel" "first" "[I", .fieldLink RX3 39 "ShareDiskModel" "counts" "[I", .fieldLink RX3 42 "ShareDiskModel" "order" "[I", .fieldLink RX3 45 "ShareDiskModel" "writes" "[Z", .fieldLink RX3 48 "ShareDiskModel" "done" "[Z", .fieldLink RX3 51 "ShareDiskModel" "urgent" "[Z", .fieldLink RX3 54 "ShareDiskModel" "deadlines" "[J", .fieldLink RX3 57 "ShareDiskModel" "slice" "I"] ++ wsX30)
def wsX3_thrown : List Cond := .code yX3_thrown cX3_thrown 1 (some .int) :: ([.fieldLink RX3 61 "ShareDiskModel" "thrown" "I"] ++ wsX30)
def wsX3_fails : List Cond := .code yX3_fails cX3_fails 3 (some .boolean) :: ([.fieldLink RX3 61 "ShareDiskModel" "thrown" "I"] ++ wsX30)
def wsX3_in : List Cond := .code yX3_in cX3_in 6 (some .boolean) :: ([])
def wsX3_isThere : List Cond := .code yX3_isThere cX3_isThere 2 (some .boolean) :: ([.constantLong RX3 64 (7), .fieldLink RX3 7 "ShareDiskModel" "there" "[Z", .methodLink RX3 66 yX3_in, .static yX3_in, .initialized RX3, .code yX3_in cX3_in 6 (some .boolean)] ++ wsX30)
def wsX3_waiting : List Cond := .code yX3_waiting cX3_waiting 4 (some .int) :: ([.fieldLink RX3 70 "ShareDiskModel" "tickets" "I", .fieldLink RX3 48 "ShareDiskModel" "done" "[Z", .fieldLink RX3 33 "ShareDiskModel" "clientOf" "[I"] ++ wsX30)
def wsX3_client : List Cond := .code yX3_client cX3_client 4 none :: ([.constantLong RX3 64 (7), .constantLong RX3 73 (12), .constantLong RX3 75 (1000), .fieldLink RX3 7 "ShareDiskModel" "there" "[Z", .fieldLink RX3 20 "ShareDiskModel" "tags" "[J", .fieldLink RX3 24 "ShareDiskModel" "sectors" "[J", .fieldLink RX3 13 "ShareDiskModel" "weights" "[I", .fieldLink RX3 17 "ShareDiskModel" "budgets" "[I", .methodLink RX3 66 yX3_in, .static yX3_in, .initialized RX3, .code yX3_in cX3_in 6 (some .boolean), .methodLink RX3 77 yX3_fails, .instanceMethod yX3_fails, .selects RX3 yX3_fails yX3_fails, .code yX3_fails cX3_fails 3 (some .boolean), .fieldLink RX3 61 "ShareDiskModel" "thrown" "I"] ++ wsX30)
def wsX3_end : List Cond := .code yX3_end cX3_end 1 none :: ([.fieldLink RX3 57 "ShareDiskModel" "slice" "I", .fieldLink RX3 92 "ShareDiskModel" "left" "I"] ++ wsX30)
def wsX3_gone_r1 : List Cond := [Cond.fieldLink RX3 7 "ShareDiskModel" "there" "[Z", Cond.fieldLink RX3 24 "ShareDiskModel" "sectors" "[J", Cond.fieldLink RX3 57 "ShareDiskModel" "slice" "I", Cond.methodLink RX3 81 yX3_isThere, Cond.instanceMethod yX3_isThere, Cond.selects RX3 yX3_isThere yX3_isThere, Cond.initialized RX3, Cond.code yX3_isThere cX3_isThere 2 (some .boolean), Cond.constantLong RX3 64 (7), Cond.methodLink RX3 66 yX3_in, Cond.static yX3_in, Cond.code yX3_in cX3_in 6 (some .boolean), Cond.methodLink RX3 85 yX3_waiting, Cond.instanceMethod yX3_waiting, Cond.selects RX3 yX3_waiting yX3_waiting, Cond.code yX3_waiting cX3_waiting 4 (some .int), Cond.fieldLink RX3 70 "ShareDiskModel" "tickets" "I", Cond.fieldLink RX3 48 "ShareDiskModel" "done" "[Z", Cond.fieldLink RX3 33 "ShareDiskModel" "clientOf" "[I", Cond.methodLink RX3 77 yX3_fails, Cond.instanceMethod yX3_fails, Cond.selects RX3 yX3_fails yX3_fails, Cond.code yX3_fails cX3_fails 3 (some .boolean), Cond.fieldLink RX3 61 "ShareDiskModel" "thrown" "I"]
def wsX3_gone_r2 : List Cond := [Cond.methodLink RX3 89 yX3_end, Cond.instanceMethod yX3_end, Cond.selects RX3 yX3_end yX3_end, Cond.code yX3_end cX3_end 1 none, Cond.fieldLink RX3 92 "ShareDiskModel" "left" "I"]
def wsX3_gone : List Cond := .code yX3_gone cX3_gone 2 none :: ((wsX3_gone_r1 ++ wsX3_gone_r2) ++ wsX30)
def wsX3_begin : List Cond := .code yX3_begin cX3_begin 3 none :: ([.fieldLink RX3 20 "ShareDiskModel" "tags" "[J", .fieldLink RX3 30 "ShareDiskModel" "bases" "[J", .fieldLink RX3 27 "ShareDiskModel" "grown" "[J"] ++ wsX30)
def wsX3_submit_r1 : List Cond := [Cond.constantLong RX3 95 (99999), Cond.constantLong RX3 97 (64), Cond.constantLong RX3 99 (100000), Cond.constantLong RX3 101 (1000000), Cond.fieldLink RX3 70 "ShareDiskModel" "tickets" "I", Cond.fieldLink RX3 33 "ShareDiskModel" "clientOf" "[I", Cond.fieldLink RX3 36 "ShareDiskModel" "first" "[I", Cond.fieldLink RX3 39 "ShareDiskModel" "counts" "[I", Cond.fieldLink RX3 45 "ShareDiskModel" "writes" "[Z", Cond.fieldLink RX3 54 "ShareDiskModel" "deadlines" "[J", Cond.fieldLink RX3 107 "ShareDiskModel" "clock" "J", Cond.methodLink RX3 81 yX3_isThere, Cond.instanceMethod yX3_isThere, Cond.selects RX3 yX3_isThere yX3_isThere, Cond.initialized RX3, Cond.code yX3_isThere cX3_isThere 2 (some .boolean), Cond.constantLong RX3 64 (7), Cond.fieldLink RX3 7 "ShareDiskModel" "there" "[Z", Cond.methodLink RX3 66 yX3_in, Cond.static yX3_in, Cond.code yX3_in cX3_in 6 (some .boolean), Cond.methodLink RX3 77 yX3_fails, Cond.instanceMethod yX3_fails, Cond.selects RX3 yX3_fails yX3_fails]
def wsX3_submit_r2 : List Cond := [Cond.code yX3_fails cX3_fails 3 (some .boolean), Cond.fieldLink RX3 61 "ShareDiskModel" "thrown" "I", Cond.methodLink RX3 85 yX3_waiting, Cond.instanceMethod yX3_waiting, Cond.selects RX3 yX3_waiting yX3_waiting, Cond.code yX3_waiting cX3_waiting 4 (some .int), Cond.fieldLink RX3 48 "ShareDiskModel" "done" "[Z", Cond.methodLink RX3 103 yX3_begin, Cond.instanceMethod yX3_begin, Cond.selects RX3 yX3_begin yX3_begin, Cond.code yX3_begin cX3_begin 3 none, Cond.fieldLink RX3 20 "ShareDiskModel" "tags" "[J", Cond.fieldLink RX3 30 "ShareDiskModel" "bases" "[J", Cond.fieldLink RX3 27 "ShareDiskModel" "grown" "[J"]
def wsX3_submit : List Cond := .code yX3_submit cX3_submit 9 (some .int) :: ((wsX3_submit_r1 ++ wsX3_submit_r2) ++ wsX30)
def wsX3_isBlocked : List Cond := .code yX3_isBlocked cX3_isBlocked 5 (some .boolean) :: ([.fieldLink RX3 36 "ShareDiskModel" "first" "[I", .fieldLink RX3 39 "ShareDiskModel" "counts" "[I", .fieldLink RX3 48 "ShareDiskModel" "done" "[Z", .fieldLink RX3 33 "ShareDiskModel" "clientOf" "[I", .fieldLink RX3 45 "ShareDiskModel" "writes" "[Z"] ++ wsX30)
def wsX3_canGo : List Cond := .code yX3_canGo cX3_canGo 2 (some .boolean) :: ([.fieldLink RX3 48 "ShareDiskModel" "done" "[Z", .methodLink RX3 111 yX3_isBlocked, .instanceMethod yX3_isBlocked, .selects RX3 yX3_isBlocked yX3_isBlocked, .initialized RX3, .code yX3_isBlocked cX3_isBlocked 5 (some .boolean), .fieldLink RX3 36 "ShareDiskModel" "first" "[I", .fieldLink RX3 39 "ShareDiskModel" "counts" "[I", .fieldLink RX3 33 "ShareDiskModel" "clientOf" "[I", .fieldLink RX3 45 "ShareDiskModel" "writes" "[Z"] ++ wsX30)
def wsX3_due : List Cond := .code yX3_due cX3_due 3 (some .int) :: ([.fieldLink RX3 70 "ShareDiskModel" "tickets" "I", .fieldLink RX3 54 "ShareDiskModel" "deadlines" "[J", .fieldLink RX3 107 "ShareDiskModel" "clock" "J", .methodLink RX3 114 yX3_canGo, .instanceMethod yX3_canGo, .selects RX3 yX3_canGo yX3_canGo, .initialized RX3, .code yX3_canGo cX3_canGo 2 (some .boolean), .fieldLink RX3 48 "ShareDiskModel" "done" "[Z", .methodLink RX3 111 yX3_isBlocked, .instanceMethod yX3_isBlocked, .selects RX3 yX3_isBlocked yX3_isBlocked, .code yX3_isBlocked cX3_isBlocked 5 (some .boolean), .fieldLink RX3 36 "ShareDiskModel" "first" "[I", .fieldLink RX3 39 "ShareDiskModel" "counts" "[I", .fieldLink RX3 33 "ShareDiskModel" "clientOf" "[I", .fieldLink RX3 45 "ShareDiskModel" "writes" "[Z"] ++ wsX30)
def wsX3_choose : List Cond := .code yX3_choose cX3_choose 2 none :: ([.fieldLink RX3 57 "ShareDiskModel" "slice" "I", .fieldLink RX3 20 "ShareDiskModel" "tags" "[J", .fieldLink RX3 17 "ShareDiskModel" "budgets" "[I", .fieldLink RX3 92 "ShareDiskModel" "left" "I", .methodLink RX3 85 yX3_waiting, .instanceMethod yX3_waiting, .selects RX3 yX3_waiting yX3_waiting, .initialized RX3, .code yX3_waiting cX3_waiting 4 (some .int), .fieldLink RX3 70 "ShareDiskModel" "tickets" "I", .fieldLink RX3 48 "ShareDiskModel" "done" "[Z", .fieldLink RX3 33 "ShareDiskModel" "clientOf" "[I"] ++ wsX30)
def wsX3_ahead : List Cond := .code yX3_ahead cX3_ahead 2 (some .int) :: ([.fieldLink RX3 36 "ShareDiskModel" "first" "[I", .fieldLink RX3 120 "ShareDiskModel" "head" "I", .constant RX3 123 (100000)] ++ wsX30)
def wsX3_next : List Cond := .code yX3_next cX3_next 3 (some .int) :: ([.fieldLink RX3 70 "ShareDiskModel" "tickets" "I", .fieldLink RX3 33 "ShareDiskModel" "clientOf" "[I", .fieldLink RX3 57 "ShareDiskModel" "slice" "I", .methodLink RX3 114 yX3_canGo, .instanceMethod yX3_canGo, .selects RX3 yX3_canGo yX3_canGo, .initialized RX3, .code yX3_canGo cX3_canGo 2 (some .boolean), .fieldLink RX3 48 "ShareDiskModel" "done" "[Z", .methodLink RX3 111 yX3_isBlocked, .instanceMethod yX3_isBlocked, .selects RX3 yX3_isBlocked yX3_isBlocked, .code yX3_isBlocked cX3_isBlocked 5 (some .boolean), .fieldLink RX3 36 "ShareDiskModel" "first" "[I", .fieldLink RX3 39 "ShareDiskModel" "counts" "[I", .fieldLink RX3 45 "ShareDiskModel" "writes" "[Z", .methodLink RX3 117 yX3_ahead, .instanceMethod yX3_ahead, .selects RX3 yX3_ahead yX3_ahead, .code yX3_ahead cX3_ahead 2 (some .int), .fieldLink RX3 120 "ShareDiskModel" "head" "I", .constant RX3 123 (100000)] ++ wsX30)
def wsX3_serve_r1 : List Cond := [Cond.fieldLink RX3 33 "ShareDiskModel" "clientOf" "[I", Cond.fieldLink RX3 36 "ShareDiskModel" "first" "[I", Cond.fieldLink RX3 120 "ShareDiskModel" "head" "I", Cond.fieldLink RX3 141 "ShareDiskModel" "passed" "J", Cond.fieldLink RX3 107 "ShareDiskModel" "clock" "J", Cond.fieldLink RX3 39 "ShareDiskModel" "counts" "[I", Cond.fieldLink RX3 48 "ShareDiskModel" "done" "[Z", Cond.fieldLink RX3 51 "ShareDiskModel" "urgent" "[Z", Cond.fieldLink RX3 144 "ShareDiskModel" "urgents" "I", Cond.fieldLink RX3 42 "ShareDiskModel" "order" "[I", Cond.fieldLink RX3 124 "ShareDiskModel" "served" "I", Cond.constantLong RX3 147 (27720), Cond.fieldLink RX3 13 "ShareDiskModel" "weights" "[I", Cond.fieldLink RX3 20 "ShareDiskModel" "tags" "[J", Cond.fieldLink RX3 27 "ShareDiskModel" "grown" "[J", Cond.fieldLink RX3 24 "ShareDiskModel" "sectors" "[J", Cond.fieldLink RX3 57 "ShareDiskModel" "slice" "I", Cond.fieldLink RX3 92 "ShareDiskModel" "left" "I", Cond.fieldLink RX3 70 "ShareDiskModel" "tickets" "I", Cond.fieldLink RX3 7 "ShareDiskModel" "there" "[Z", Cond.methodLink RX3 85 yX3_waiting, Cond.instanceMethod yX3_waiting, Cond.selects RX3 yX3_waiting yX3_waiting, Cond.initialized RX3]
def wsX3_serve_r2 : List Cond := [Cond.code yX3_waiting cX3_waiting 4 (some .int), Cond.methodLink RX3 89 yX3_end, Cond.instanceMethod yX3_end, Cond.selects RX3 yX3_end yX3_end, Cond.code yX3_end cX3_end 1 none]
def wsX3_serve : List Cond := .code yX3_serve cX3_serve 8 none :: ((wsX3_serve_r1 ++ wsX3_serve_r2) ++ wsX30)
def wsX3_dispatch_r1 : List Cond := [Cond.fieldLink RX3 61 "ShareDiskModel" "thrown" "I", Cond.fieldLink RX3 124 "ShareDiskModel" "served" "I", Cond.fieldLink RX3 70 "ShareDiskModel" "tickets" "I", Cond.fieldLink RX3 57 "ShareDiskModel" "slice" "I", Cond.methodLink RX3 127 yX3_due, Cond.instanceMethod yX3_due, Cond.selects RX3 yX3_due yX3_due, Cond.initialized RX3, Cond.code yX3_due cX3_due 3 (some .int), Cond.fieldLink RX3 54 "ShareDiskModel" "deadlines" "[J", Cond.fieldLink RX3 107 "ShareDiskModel" "clock" "J", Cond.methodLink RX3 114 yX3_canGo, Cond.instanceMethod yX3_canGo, Cond.selects RX3 yX3_canGo yX3_canGo, Cond.code yX3_canGo cX3_canGo 2 (some .boolean), Cond.fieldLink RX3 48 "ShareDiskModel" "done" "[Z", Cond.methodLink RX3 111 yX3_isBlocked, Cond.instanceMethod yX3_isBlocked, Cond.selects RX3 yX3_isBlocked yX3_isBlocked, Cond.code yX3_isBlocked cX3_isBlocked 5 (some .boolean), Cond.fieldLink RX3 36 "ShareDiskModel" "first" "[I", Cond.fieldLink RX3 39 "ShareDiskModel" "counts" "[I", Cond.fieldLink RX3 33 "ShareDiskModel" "clientOf" "[I", Cond.fieldLink RX3 45 "ShareDiskModel" "writes" "[Z"]
def wsX3_dispatch_r2 : List Cond := [Cond.methodLink RX3 131 yX3_choose, Cond.instanceMethod yX3_choose, Cond.selects RX3 yX3_choose yX3_choose, Cond.code yX3_choose cX3_choose 2 none, Cond.fieldLink RX3 20 "ShareDiskModel" "tags" "[J", Cond.fieldLink RX3 17 "ShareDiskModel" "budgets" "[I", Cond.fieldLink RX3 92 "ShareDiskModel" "left" "I", Cond.methodLink RX3 85 yX3_waiting, Cond.instanceMethod yX3_waiting, Cond.selects RX3 yX3_waiting yX3_waiting, Cond.code yX3_waiting cX3_waiting 4 (some .int), Cond.methodLink RX3 134 yX3_next, Cond.instanceMethod yX3_next, Cond.selects RX3 yX3_next yX3_next, Cond.code yX3_next cX3_next 3 (some .int), Cond.methodLink RX3 117 yX3_ahead, Cond.instanceMethod yX3_ahead, Cond.selects RX3 yX3_ahead yX3_ahead, Cond.code yX3_ahead cX3_ahead 2 (some .int), Cond.fieldLink RX3 120 "ShareDiskModel" "head" "I", Cond.constant RX3 123 (100000), Cond.methodLink RX3 137 yX3_serve, Cond.instanceMethod yX3_serve, Cond.selects RX3 yX3_serve yX3_serve]
def wsX3_dispatch_r3 : List Cond := [Cond.code yX3_serve cX3_serve 8 none, Cond.fieldLink RX3 141 "ShareDiskModel" "passed" "J", Cond.fieldLink RX3 51 "ShareDiskModel" "urgent" "[Z", Cond.fieldLink RX3 144 "ShareDiskModel" "urgents" "I", Cond.fieldLink RX3 42 "ShareDiskModel" "order" "[I", Cond.constantLong RX3 147 (27720), Cond.fieldLink RX3 13 "ShareDiskModel" "weights" "[I", Cond.fieldLink RX3 27 "ShareDiskModel" "grown" "[J", Cond.fieldLink RX3 24 "ShareDiskModel" "sectors" "[J", Cond.fieldLink RX3 7 "ShareDiskModel" "there" "[Z", Cond.methodLink RX3 89 yX3_end, Cond.instanceMethod yX3_end, Cond.selects RX3 yX3_end yX3_end, Cond.code yX3_end cX3_end 1 none]
def wsX3_dispatch : List Cond := .code yX3_dispatch cX3_dispatch 3 (some .int) :: ((wsX3_dispatch_r1 ++ (wsX3_dispatch_r2 ++ wsX3_dispatch_r3)) ++ wsX30)
def wsX3_pass : List Cond := .code yX3_pass cX3_pass 2 (some .long) :: ([.constantLong RX3 101 (1000000), .fieldLink RX3 107 "ShareDiskModel" "clock" "J", .methodLink RX3 66 yX3_in, .static yX3_in, .initialized RX3, .code yX3_in cX3_in 6 (some .boolean), .methodLink RX3 77 yX3_fails, .instanceMethod yX3_fails, .selects RX3 yX3_fails yX3_fails, .code yX3_fails cX3_fails 3 (some .boolean), .fieldLink RX3 61 "ShareDiskModel" "thrown" "I"] ++ wsX30)
def wsX3_state : List Cond := .code yX3_state cX3_state 2 (some .int) :: ([.fieldLink RX3 70 "ShareDiskModel" "tickets" "I", .fieldLink RX3 48 "ShareDiskModel" "done" "[Z", .fieldLink RX3 51 "ShareDiskModel" "urgent" "[Z", .methodLink RX3 66 yX3_in, .static yX3_in, .initialized RX3, .code yX3_in cX3_in 6 (some .boolean), .methodLink RX3 77 yX3_fails, .instanceMethod yX3_fails, .selects RX3 yX3_fails yX3_fails, .code yX3_fails cX3_fails 3 (some .boolean), .fieldLink RX3 61 "ShareDiskModel" "thrown" "I", .methodLink RX3 111 yX3_isBlocked, .instanceMethod yX3_isBlocked, .selects RX3 yX3_isBlocked yX3_isBlocked, .code yX3_isBlocked cX3_isBlocked 5 (some .boolean), .fieldLink RX3 36 "ShareDiskModel" "first" "[I", .fieldLink RX3 39 "ShareDiskModel" "counts" "[I", .fieldLink RX3 33 "ShareDiskModel" "clientOf" "[I", .fieldLink RX3 45 "ShareDiskModel" "writes" "[Z"] ++ wsX30)
def wsX3_order : List Cond := .code yX3_order cX3_order 2 (some .int) :: ([.fieldLink RX3 61 "ShareDiskModel" "thrown" "I", .fieldLink RX3 124 "ShareDiskModel" "served" "I", .fieldLink RX3 42 "ShareDiskModel" "order" "[I", .methodLink RX3 66 yX3_in, .static yX3_in, .initialized RX3, .code yX3_in cX3_in 6 (some .boolean)] ++ wsX30)
def wsX3_tag : List Cond := .code yX3_tag cX3_tag 2 (some .long) :: ([.fieldLink RX3 20 "ShareDiskModel" "tags" "[J", .methodLink RX3 81 yX3_isThere, .instanceMethod yX3_isThere, .selects RX3 yX3_isThere yX3_isThere, .initialized RX3, .code yX3_isThere cX3_isThere 2 (some .boolean), .constantLong RX3 64 (7), .fieldLink RX3 7 "ShareDiskModel" "there" "[Z", .methodLink RX3 66 yX3_in, .static yX3_in, .code yX3_in cX3_in 6 (some .boolean), .methodLink RX3 77 yX3_fails, .instanceMethod yX3_fails, .selects RX3 yX3_fails yX3_fails, .code yX3_fails cX3_fails 3 (some .boolean), .fieldLink RX3 61 "ShareDiskModel" "thrown" "I"] ++ wsX30)
def wsX3_lag : List Cond := .code yX3_lag cX3_lag 3 (some .long) :: ([.fieldLink RX3 27 "ShareDiskModel" "grown" "[J", .fieldLink RX3 30 "ShareDiskModel" "bases" "[J", .methodLink RX3 81 yX3_isThere, .instanceMethod yX3_isThere, .selects RX3 yX3_isThere yX3_isThere, .initialized RX3, .code yX3_isThere cX3_isThere 2 (some .boolean), .constantLong RX3 64 (7), .fieldLink RX3 7 "ShareDiskModel" "there" "[Z", .methodLink RX3 66 yX3_in, .static yX3_in, .code yX3_in cX3_in 6 (some .boolean), .methodLink RX3 77 yX3_fails, .instanceMethod yX3_fails, .selects RX3 yX3_fails yX3_fails, .code yX3_fails cX3_fails 3 (some .boolean), .fieldLink RX3 61 "ShareDiskModel" "thrown" "I", .methodLink RX3 85 yX3_waiting, .instanceMethod yX3_waiting, .selects RX3 yX3_waiting yX3_waiting, .code yX3_waiting cX3_waiting 4 (some .int), .fieldLink RX3 70 "ShareDiskModel" "tickets" "I", .fieldLink RX3 48 "ShareDiskModel" "done" "[Z", .fieldLink RX3 33 "ShareDiskModel" "clientOf" "[I"] ++ wsX30)
def wsX3_count_r1 : List Cond := [Cond.fieldLink RX3 61 "ShareDiskModel" "thrown" "I", Cond.fieldLink RX3 7 "ShareDiskModel" "there" "[Z", Cond.fieldLink RX3 70 "ShareDiskModel" "tickets" "I", Cond.fieldLink RX3 124 "ShareDiskModel" "served" "I", Cond.fieldLink RX3 144 "ShareDiskModel" "urgents" "I", Cond.fieldLink RX3 120 "ShareDiskModel" "head" "I", Cond.fieldLink RX3 141 "ShareDiskModel" "passed" "J", Cond.fieldLink RX3 57 "ShareDiskModel" "slice" "I", Cond.fieldLink RX3 92 "ShareDiskModel" "left" "I", Cond.constantLong RX3 149 (8), Cond.constantLong RX3 151 (15), Cond.fieldLink RX3 24 "ShareDiskModel" "sectors" "[J", Cond.constantLong RX3 153 (16), Cond.constantLong RX3 155 (23), Cond.constantLong RX3 157 (-1), Cond.methodLink RX3 66 yX3_in, Cond.static yX3_in, Cond.initialized RX3, Cond.code yX3_in cX3_in 6 (some .boolean), Cond.methodLink RX3 85 yX3_waiting, Cond.instanceMethod yX3_waiting, Cond.selects RX3 yX3_waiting yX3_waiting, Cond.code yX3_waiting cX3_waiting 4 (some .int), Cond.fieldLink RX3 48 "ShareDiskModel" "done" "[Z"]
def wsX3_count_r2 : List Cond := [Cond.fieldLink RX3 33 "ShareDiskModel" "clientOf" "[I"]
def wsX3_count : List Cond := .code yX3_count cX3_count 5 (some .long) :: ((wsX3_count_r1 ++ wsX3_count_r2) ++ wsX30)
def wsJ9_abs_0f7a4 : List Cond := .code yJ9_abs_0f7a4 cJ9_abs_0f7a4 1 (some .int) :: ([])
def wsJ9_max_f86c9 : List Cond := .code yJ9_max_f86c9 cJ9_max_f86c9 4 (some .long) :: ([])
def wsL_client_r1 : List Cond := [Cond.classLink RL 13 "java/lang/IllegalArgumentException", Cond.methodLink RL 7 yX2_client, Cond.instanceMethod yX2_client, Cond.selects RX2 yX2_client yX2_client, Cond.initialized RX2, Cond.code yX2_client cX2_client 4 none, Cond.classLink RX2 31 "java/lang/IllegalArgumentException", Cond.initialized "java/lang/IllegalArgumentException", Cond.fieldLink RX2 10 "ShareDisk" "clients" "LShareDisk$Clients;", Cond.fieldLink RX2 38 "ShareDisk" "systemTag" "J", Cond.methodLink RX2 27 yX2_isWithin, Cond.static yX2_isWithin, Cond.code yX2_isWithin cX2_isWithin 3 (some .boolean), Cond.methodLink RX2 34 yX0_isThere, Cond.instanceMethod yX0_isThere, Cond.selects RX0 yX0_isThere yX0_isThere, Cond.initialized RX0, Cond.code yX0_isThere cX0_isThere 2 (some .boolean), Cond.fieldLink RX0 9 "ShareDisk$Clients" "there" "[Z", Cond.methodLink RX2 42 yX0_enter, Cond.instanceMethod yX0_enter, Cond.selects RX0 yX0_enter yX0_enter, Cond.code yX0_enter cX0_enter 4 none, Cond.fieldLink RX0 22 "ShareDisk$Clients" "tag" "[J"]
def wsL_client_r2 : List Cond := [Cond.methodLink RX2 46 yX0_setShare, Cond.instanceMethod yX0_setShare, Cond.selects RX0 yX0_setShare yX0_setShare, Cond.code yX0_setShare cX0_setShare 4 none, Cond.fieldLink RX0 15 "ShareDisk$Clients" "sectorCost" "[I", Cond.fieldLink RX0 19 "ShareDisk$Clients" "budget" "[I"]
def wsL_client : List Cond := .codeWith yL_client cL_client 5 (some .int) [(0, 7, 10, 13)] :: ((wsL_client_r1 ++ wsL_client_r2) ++ wsX20 ++ wsX00 ++ (vx_at0 RX2 33 "java/lang/IllegalArgumentException" ["java/lang/RuntimeException", "java/lang/Exception"]).filter goodWord)
def wsL_gone_r1 : List Cond := [Cond.classLink RL 13 "java/lang/IllegalArgumentException", Cond.classLink RL 19 "java/lang/IllegalStateException", Cond.methodLink RL 15 yX2_gone, Cond.instanceMethod yX2_gone, Cond.selects RX2 yX2_gone yX2_gone, Cond.initialized RX2, Cond.code yX2_gone cX2_gone 2 none, Cond.classLink RX2 58 "java/lang/IllegalStateException", Cond.initialized "java/lang/IllegalStateException", Cond.fieldLink RX2 10 "ShareDisk" "clients" "LShareDisk$Clients;", Cond.fieldLink RX2 23 "ShareDisk" "sliceOwner" "I", Cond.methodLink RX2 50 yX2_requireThere, Cond.instanceMethod yX2_requireThere, Cond.selects RX2 yX2_requireThere yX2_requireThere, Cond.code yX2_requireThere cX2_requireThere 2 none, Cond.classLink RX2 31 "java/lang/IllegalArgumentException", Cond.initialized "java/lang/IllegalArgumentException", Cond.methodLink RX2 27 yX2_isWithin, Cond.static yX2_isWithin, Cond.code yX2_isWithin cX2_isWithin 3 (some .boolean), Cond.methodLink RX2 34 yX0_isThere, Cond.instanceMethod yX0_isThere, Cond.selects RX0 yX0_isThere yX0_isThere, Cond.initialized RX0]
def wsL_gone_r2 : List Cond := [Cond.code yX0_isThere cX0_isThere 2 (some .boolean), Cond.fieldLink RX0 9 "ShareDisk$Clients" "there" "[Z", Cond.methodLink RX2 54 yX0_waitingOf, Cond.instanceMethod yX0_waitingOf, Cond.selects RX0 yX0_waitingOf yX0_waitingOf, Cond.code yX0_waitingOf cX0_waitingOf 2 (some .int), Cond.fieldLink RX0 26 "ShareDisk$Clients" "waiting" "[I", Cond.methodLink RX2 61 yX0_leave, Cond.instanceMethod yX0_leave, Cond.selects RX0 yX0_leave yX0_leave, Cond.code yX0_leave cX0_leave 2 none, Cond.fieldLink RX0 29 "ShareDisk$Clients" "sectors" "[I", Cond.methodLink RX2 64 yX2_endSlice, Cond.instanceMethod yX2_endSlice, Cond.selects RX2 yX2_endSlice yX2_endSlice, Cond.code yX2_endSlice cX2_endSlice 1 none, Cond.fieldLink RX2 146 "ShareDisk" "sliceLeft" "I"]
def wsL_gone : List Cond := .codeWith yL_gone cL_gone 3 (some .int) [(0, 5, 8, 13), (0, 5, 11, 19)] :: ((wsL_gone_r1 ++ wsL_gone_r2) ++ wsX20 ++ wsX00 ++ (vx_at0 RX2 60 "java/lang/IllegalStateException" ["java/lang/RuntimeException", "java/lang/Exception"]).filter goodWord ++ (vx_at0 RX2 33 "java/lang/IllegalArgumentException" ["java/lang/RuntimeException", "java/lang/Exception"]).filter goodWord)
def wsL_submit_r1 : List Cond := [Cond.classLink RL 13 "java/lang/IllegalArgumentException", Cond.methodLink RL 21 yX2_submit, Cond.instanceMethod yX2_submit, Cond.selects RX2 yX2_submit yX2_submit, Cond.initialized RX2, Cond.code yX2_submit cX2_submit 6 (some .int), Cond.classLink RX2 31 "java/lang/IllegalArgumentException", Cond.initialized "java/lang/IllegalArgumentException", Cond.constant RX2 71 (1000000), Cond.fieldLink RX2 10 "ShareDisk" "clients" "LShareDisk$Clients;", Cond.fieldLink RX2 19 "ShareDisk" "requests" "LShareDisk$Requests;", Cond.fieldLink RX2 38 "ShareDisk" "systemTag" "J", Cond.fieldLink RX2 79 "ShareDisk" "clock" "J", Cond.methodLink RX2 50 yX2_requireThere, Cond.instanceMethod yX2_requireThere, Cond.selects RX2 yX2_requireThere yX2_requireThere, Cond.code yX2_requireThere cX2_requireThere 2 none, Cond.methodLink RX2 27 yX2_isWithin, Cond.static yX2_isWithin, Cond.code yX2_isWithin cX2_isWithin 3 (some .boolean), Cond.methodLink RX2 34 yX0_isThere, Cond.instanceMethod yX0_isThere, Cond.selects RX0 yX0_isThere yX0_isThere, Cond.initialized RX0]
def wsL_submit_r2 : List Cond := [Cond.code yX0_isThere cX0_isThere 2 (some .boolean), Cond.fieldLink RX0 9 "ShareDisk$Clients" "there" "[Z", Cond.methodLink RX2 67 yX2_areOnDisk, Cond.static yX2_areOnDisk, Cond.code yX2_areOnDisk cX2_areOnDisk 2 (some .boolean), Cond.constant RX2 151 (100000), Cond.methodLink RX2 54 yX0_waitingOf, Cond.instanceMethod yX0_waitingOf, Cond.selects RX0 yX0_waitingOf yX0_waitingOf, Cond.code yX0_waitingOf cX0_waitingOf 2 (some .int), Cond.fieldLink RX0 26 "ShareDisk$Clients" "waiting" "[I", Cond.methodLink RX2 72 yX1_isFull, Cond.instanceMethod yX1_isFull, Cond.selects RX1 yX1_isFull yX1_isFull, Cond.initialized RX1, Cond.code yX1_isFull cX1_isFull 1 (some .boolean), Cond.fieldLink RX1 41 "ShareDisk$Requests" "tickets" "I", Cond.methodLink RX2 76 yX0_noteRequest, Cond.instanceMethod yX0_noteRequest, Cond.selects RX0 yX0_noteRequest yX0_noteRequest, Cond.code yX0_noteRequest cX0_noteRequest 4 none, Cond.fieldLink RX0 22 "ShareDisk$Clients" "tag" "[J", Cond.methodLink RX0 37 Lib.MathLoose.max_long.x, Cond.static Lib.MathLoose.max_long.x]
def wsL_submit_r3 : List Cond := [Cond.initialized "java/lang/Math", Cond.code Lib.MathLoose.max_long.x Lib.MathLoose.max_long.code 4 (some .long), Cond.methodLink RX0 43 yX0_forgetLead, Cond.instanceMethod yX0_forgetLead, Cond.selects RX0 yX0_forgetLead yX0_forgetLead, Cond.code yX0_forgetLead cX0_forgetLead 3 none, Cond.fieldLink RX0 34 "ShareDisk$Clients" "lead" "[[J", Cond.methodLink RX2 82 yX1_add, Cond.instanceMethod yX1_add, Cond.selects RX1 yX1_add yX1_add, Cond.code yX1_add cX1_add 9 (some .int), Cond.fieldLink RX1 9 "ShareDisk$Requests" "owner" "[I", Cond.fieldLink RX1 15 "ShareDisk$Requests" "write" "[Z", Cond.fieldLink RX1 19 "ShareDisk$Requests" "first" "[I", Cond.fieldLink RX1 22 "ShareDisk$Requests" "size" "[I", Cond.fieldLink RX1 25 "ShareDisk$Requests" "deadline" "[J", Cond.fieldLink RX1 29 "ShareDisk$Requests" "waits" "[Z", Cond.fieldLink RX1 32 "ShareDisk$Requests" "blockers" "[I", Cond.methodLink RX1 51 yX1_mustKeepOrder, Cond.instanceMethod yX1_mustKeepOrder, Cond.selects RX1 yX1_mustKeepOrder yX1_mustKeepOrder, Cond.code yX1_mustKeepOrder cX1_mustKeepOrder 3 (some .boolean)]
def wsL_submit : List Cond := .codeWith yL_submit cL_submit 8 (some .int) [(0, 16, 19, 13)] :: ((wsL_submit_r1 ++ (wsL_submit_r2 ++ wsL_submit_r3)) ++ wsX20 ++ wsX00 ++ wsX10 ++ (vx_at0 RX2 33 "java/lang/IllegalArgumentException" ["java/lang/RuntimeException", "java/lang/Exception"]).filter goodWord)
def wsL_pass : List Cond := .codeWith yL_pass cL_pass 4 (some .int) [(0, 8, 11, 13)] :: ([.classLink RL 13 "java/lang/IllegalArgumentException", .methodLink RL 25 yX2_pass, .instanceMethod yX2_pass, .selects RX2 yX2_pass yX2_pass, .initialized RX2, .code yX2_pass cX2_pass 2 (some .long), .classLink RX2 31 "java/lang/IllegalArgumentException", .initialized "java/lang/IllegalArgumentException", .constant RX2 71 (1000000), .fieldLink RX2 79 "ShareDisk" "clock" "J", .methodLink RX2 27 yX2_isWithin, .static yX2_isWithin, .code yX2_isWithin cX2_isWithin 3 (some .boolean)] ++ wsX20 ++ (vx_at0 RX2 33 "java/lang/IllegalArgumentException" ["java/lang/RuntimeException", "java/lang/Exception"]).filter goodWord)
def wsL_state : List Cond := .codeWith yL_state cL_state 4 (some .int) [(0, 9, 12, 33)] :: ([.classLink RL 33 "java/lang/IndexOutOfBoundsException", .methodLink RL 29 yX2_state, .instanceMethod yX2_state, .selects RX2 yX2_state yX2_state, .initialized RX2, .code yX2_state cX2_state 2 (some .int), .classLink RX2 107 "java/lang/IndexOutOfBoundsException", .initialized "java/lang/IndexOutOfBoundsException", .fieldLink RX2 19 "ShareDisk" "requests" "LShareDisk$Requests;", .methodLink RX2 104 yX1_isTicket, .instanceMethod yX1_isTicket, .selects RX1 yX1_isTicket yX1_isTicket, .initialized RX1, .code yX1_isTicket cX1_isTicket 2 (some .boolean), .fieldLink RX1 41 "ShareDisk$Requests" "tickets" "I", .methodLink RX2 110 yX1_stateOf, .instanceMethod yX1_stateOf, .selects RX1 yX1_stateOf yX1_stateOf, .code yX1_stateOf cX1_stateOf 2 (some .int), .fieldLink RX1 29 "ShareDisk$Requests" "waits" "[Z", .fieldLink RX1 35 "ShareDisk$Requests" "servedHow" "[I", .fieldLink RX1 32 "ShareDisk$Requests" "blockers" "[I"] ++ wsX20 ++ wsX10 ++ (vx_at0 RX2 109 "java/lang/IndexOutOfBoundsException" ["java/lang/RuntimeException", "java/lang/Exception"]).filter goodWord)
def wsL_tag_r1 : List Cond := [Cond.classLink RL 13 "java/lang/IllegalArgumentException", Cond.methodLink RL 35 yX2_tag, Cond.instanceMethod yX2_tag, Cond.selects RX2 yX2_tag yX2_tag, Cond.initialized RX2, Cond.code yX2_tag cX2_tag 2 (some .long), Cond.fieldLink RX2 38 "ShareDisk" "systemTag" "J", Cond.fieldLink RX2 10 "ShareDisk" "clients" "LShareDisk$Clients;", Cond.methodLink RX2 50 yX2_requireThere, Cond.instanceMethod yX2_requireThere, Cond.selects RX2 yX2_requireThere yX2_requireThere, Cond.code yX2_requireThere cX2_requireThere 2 none, Cond.classLink RX2 31 "java/lang/IllegalArgumentException", Cond.initialized "java/lang/IllegalArgumentException", Cond.methodLink RX2 27 yX2_isWithin, Cond.static yX2_isWithin, Cond.code yX2_isWithin cX2_isWithin 3 (some .boolean), Cond.methodLink RX2 34 yX0_isThere, Cond.instanceMethod yX0_isThere, Cond.selects RX0 yX0_isThere yX0_isThere, Cond.initialized RX0, Cond.code yX0_isThere cX0_isThere 2 (some .boolean), Cond.fieldLink RX0 9 "ShareDisk$Clients" "there" "[Z", Cond.methodLink RX2 116 yX0_tagOf]
def wsL_tag_r2 : List Cond := [Cond.instanceMethod yX0_tagOf, Cond.selects RX0 yX0_tagOf yX0_tagOf, Cond.code yX0_tagOf cX0_tagOf 2 (some .long), Cond.fieldLink RX0 22 "ShareDisk$Clients" "tag" "[J"]
def wsL_tag : List Cond := .codeWith yL_tag cL_tag 4 (some .int) [(0, 8, 11, 13)] :: ((wsL_tag_r1 ++ wsL_tag_r2) ++ wsX20 ++ wsX00 ++ (vx_at0 RX2 33 "java/lang/IllegalArgumentException" ["java/lang/RuntimeException", "java/lang/Exception"]).filter goodWord)
def wsL_lag_r1 : List Cond := [Cond.classLink RL 13 "java/lang/IllegalArgumentException", Cond.methodLink RL 38 yX2_lag, Cond.instanceMethod yX2_lag, Cond.selects RX2 yX2_lag yX2_lag, Cond.initialized RX2, Cond.code yX2_lag cX2_lag 3 (some .long), Cond.classLink RX2 31 "java/lang/IllegalArgumentException", Cond.initialized "java/lang/IllegalArgumentException", Cond.fieldLink RX2 10 "ShareDisk" "clients" "LShareDisk$Clients;", Cond.methodLink RX2 50 yX2_requireThere, Cond.instanceMethod yX2_requireThere, Cond.selects RX2 yX2_requireThere yX2_requireThere, Cond.code yX2_requireThere cX2_requireThere 2 none, Cond.methodLink RX2 27 yX2_isWithin, Cond.static yX2_isWithin, Cond.code yX2_isWithin cX2_isWithin 3 (some .boolean), Cond.methodLink RX2 34 yX0_isThere, Cond.instanceMethod yX0_isThere, Cond.selects RX0 yX0_isThere yX0_isThere, Cond.initialized RX0, Cond.code yX0_isThere cX0_isThere 2 (some .boolean), Cond.fieldLink RX0 9 "ShareDisk$Clients" "there" "[Z", Cond.methodLink RX2 120 yX0_leadOf, Cond.instanceMethod yX0_leadOf]
def wsL_lag_r2 : List Cond := [Cond.selects RX0 yX0_leadOf yX0_leadOf, Cond.code yX0_leadOf cX0_leadOf 3 (some .long), Cond.fieldLink RX0 26 "ShareDisk$Clients" "waiting" "[I", Cond.fieldLink RX0 34 "ShareDisk$Clients" "lead" "[[J"]
def wsL_lag : List Cond := .codeWith yL_lag cL_lag 5 (some .int) [(0, 9, 12, 13)] :: ((wsL_lag_r1 ++ wsL_lag_r2) ++ wsX20 ++ wsX00 ++ (vx_at0 RX2 33 "java/lang/IllegalArgumentException" ["java/lang/RuntimeException", "java/lang/Exception"]).filter goodWord)
def wsL_law0_r1 : List Cond := [Cond.classLink RL 8 RX2, Cond.instantiable RX2 8, Cond.initialized RX2, Cond.classLink RL 43 RX3, Cond.instantiable RX3 24, Cond.initialized RX3, Cond.arrayClass .long, Cond.methodLink RL 42 yX2_init, Cond.instanceMethod yX2_init, Cond.code yX2_init cX2_init 1 none, Cond.methodLink RX2 1 objectInit, Cond.instanceMethod objectInit, Cond.code objectInit ⟨#[0xb1]⟩ 1 none, Cond.classLink RX2 7 RX0, Cond.instantiable RX0 7, Cond.initialized RX0, Cond.fieldLink RX2 10 "ShareDisk" "clients" "LShareDisk$Clients;", Cond.classLink RX2 16 RX1, Cond.instantiable RX1 12, Cond.initialized RX1, Cond.fieldLink RX2 19 "ShareDisk" "requests" "LShareDisk$Requests;", Cond.fieldLink RX2 23 "ShareDisk" "sliceOwner" "I", Cond.instanceMethod yX0_init, Cond.code yX0_init cX0_init 1 none]
def wsL_law0_r2 : List Cond := [Cond.methodLink RX0 3 objectInit, Cond.arrayClass .boolean, Cond.fieldLink RX0 9 "ShareDisk$Clients" "there" "[Z", Cond.arrayClass .int, Cond.fieldLink RX0 15 "ShareDisk$Clients" "sectorCost" "[I", Cond.fieldLink RX0 19 "ShareDisk$Clients" "budget" "[I", Cond.fieldLink RX0 22 "ShareDisk$Clients" "tag" "[J", Cond.fieldLink RX0 26 "ShareDisk$Clients" "waiting" "[I", Cond.fieldLink RX0 29 "ShareDisk$Clients" "sectors" "[I", Cond.classLink RX0 32 "[[J", Cond.fieldLink RX0 34 "ShareDisk$Clients" "lead" "[[J", Cond.instanceMethod yX1_init, Cond.code yX1_init cX1_init 1 none, Cond.methodLink RX1 3 objectInit, Cond.fieldLink RX1 9 "ShareDisk$Requests" "owner" "[I", Cond.fieldLink RX1 15 "ShareDisk$Requests" "write" "[Z", Cond.fieldLink RX1 19 "ShareDisk$Requests" "first" "[I", Cond.fieldLink RX1 22 "ShareDisk$Requests" "size" "[I", Cond.fieldLink RX1 25 "ShareDisk$Requests" "deadline" "[J", Cond.fieldLink RX1 29 "ShareDisk$Requests" "waits" "[Z", Cond.fieldLink RX1 32 "ShareDisk$Requests" "blockers" "[I", Cond.fieldLink RX1 35 "ShareDisk$Requests" "servedHow" "[I", Cond.fieldLink RX1 38 "ShareDisk$Requests" "servedOrder" "[I", Cond.methodLink RL 45 yX3_init]
def wsL_law0_r3 : List Cond := [Cond.instanceMethod yX3_init, Cond.code yX3_init cX3_init 1 none, Cond.methodLink RX3 1 objectInit, Cond.fieldLink RX3 7 "ShareDiskModel" "there" "[Z", Cond.fieldLink RX3 13 "ShareDiskModel" "weights" "[I", Cond.fieldLink RX3 17 "ShareDiskModel" "budgets" "[I", Cond.fieldLink RX3 20 "ShareDiskModel" "tags" "[J", Cond.fieldLink RX3 24 "ShareDiskModel" "sectors" "[J", Cond.fieldLink RX3 27 "ShareDiskModel" "grown" "[J", Cond.fieldLink RX3 30 "ShareDiskModel" "bases" "[J", Cond.fieldLink RX3 33 "ShareDiskModel" "clientOf" "[I", Cond.fieldLink RX3 36 "ShareDiskModel" "first" "[I", Cond.fieldLink RX3 39 "ShareDiskModel" "counts" "[I", Cond.fieldLink RX3 42 "ShareDiskModel" "order" "[I", Cond.fieldLink RX3 45 "ShareDiskModel" "writes" "[Z", Cond.fieldLink RX3 48 "ShareDiskModel" "done" "[Z", Cond.fieldLink RX3 51 "ShareDiskModel" "urgent" "[Z", Cond.fieldLink RX3 54 "ShareDiskModel" "deadlines" "[J", Cond.fieldLink RX3 57 "ShareDiskModel" "slice" "I", Cond.methodLink RL 46 yL_client, Cond.static yL_client, Cond.initialized RL, Cond.codeWith yL_client cL_client 5 (some .int) [(0, 7, 10, 13)], Cond.classLink RL 13 "java/lang/IllegalArgumentException"]
def wsL_law0_r4 : List Cond := [Cond.methodLink RL 7 yX2_client, Cond.instanceMethod yX2_client, Cond.selects RX2 yX2_client yX2_client, Cond.code yX2_client cX2_client 4 none, Cond.classLink RX2 31 "java/lang/IllegalArgumentException", Cond.initialized "java/lang/IllegalArgumentException", Cond.fieldLink RX2 38 "ShareDisk" "systemTag" "J", Cond.methodLink RX2 27 yX2_isWithin, Cond.static yX2_isWithin, Cond.code yX2_isWithin cX2_isWithin 3 (some .boolean), Cond.methodLink RX2 34 yX0_isThere, Cond.instanceMethod yX0_isThere, Cond.selects RX0 yX0_isThere yX0_isThere, Cond.code yX0_isThere cX0_isThere 2 (some .boolean), Cond.methodLink RX2 42 yX0_enter, Cond.instanceMethod yX0_enter, Cond.selects RX0 yX0_enter yX0_enter, Cond.code yX0_enter cX0_enter 4 none, Cond.methodLink RX2 46 yX0_setShare, Cond.instanceMethod yX0_setShare, Cond.selects RX0 yX0_setShare yX0_setShare, Cond.code yX0_setShare cX0_setShare 4 none, Cond.methodLink RL 51 yX3_client, Cond.instanceMethod yX3_client]
def wsL_law0_r5 : List Cond := [Cond.selects RX3 yX3_client yX3_client, Cond.code yX3_client cX3_client 4 none, Cond.constantLong RX3 64 (7), Cond.constantLong RX3 73 (12), Cond.constantLong RX3 75 (1000), Cond.methodLink RX3 66 yX3_in, Cond.static yX3_in, Cond.code yX3_in cX3_in 6 (some .boolean), Cond.methodLink RX3 77 yX3_fails, Cond.instanceMethod yX3_fails, Cond.selects RX3 yX3_fails yX3_fails, Cond.code yX3_fails cX3_fails 3 (some .boolean), Cond.fieldLink RX3 61 "ShareDiskModel" "thrown" "I", Cond.methodLink RL 52 yX3_thrown, Cond.instanceMethod yX3_thrown, Cond.selects RX3 yX3_thrown yX3_thrown, Cond.code yX3_thrown cX3_thrown 1 (some .int), Cond.methodLink RL 56 yL_gone, Cond.static yL_gone, Cond.codeWith yL_gone cL_gone 3 (some .int) [(0, 5, 8, 13), (0, 5, 11, 19)], Cond.classLink RL 19 "java/lang/IllegalStateException", Cond.methodLink RL 15 yX2_gone, Cond.instanceMethod yX2_gone, Cond.selects RX2 yX2_gone yX2_gone]
def wsL_law0_r6 : List Cond := [Cond.code yX2_gone cX2_gone 2 none, Cond.classLink RX2 58 "java/lang/IllegalStateException", Cond.initialized "java/lang/IllegalStateException", Cond.methodLink RX2 50 yX2_requireThere, Cond.instanceMethod yX2_requireThere, Cond.selects RX2 yX2_requireThere yX2_requireThere, Cond.code yX2_requireThere cX2_requireThere 2 none, Cond.methodLink RX2 54 yX0_waitingOf, Cond.instanceMethod yX0_waitingOf, Cond.selects RX0 yX0_waitingOf yX0_waitingOf, Cond.code yX0_waitingOf cX0_waitingOf 2 (some .int), Cond.methodLink RX2 61 yX0_leave, Cond.instanceMethod yX0_leave, Cond.selects RX0 yX0_leave yX0_leave, Cond.code yX0_leave cX0_leave 2 none, Cond.methodLink RX2 64 yX2_endSlice, Cond.instanceMethod yX2_endSlice, Cond.selects RX2 yX2_endSlice yX2_endSlice, Cond.code yX2_endSlice cX2_endSlice 1 none, Cond.fieldLink RX2 146 "ShareDisk" "sliceLeft" "I", Cond.methodLink RL 59 yX3_gone, Cond.instanceMethod yX3_gone, Cond.selects RX3 yX3_gone yX3_gone, Cond.code yX3_gone cX3_gone 2 none]
def wsL_law0_r7 : List Cond := [Cond.methodLink RX3 81 yX3_isThere, Cond.instanceMethod yX3_isThere, Cond.selects RX3 yX3_isThere yX3_isThere, Cond.code yX3_isThere cX3_isThere 2 (some .boolean), Cond.methodLink RX3 85 yX3_waiting, Cond.instanceMethod yX3_waiting, Cond.selects RX3 yX3_waiting yX3_waiting, Cond.code yX3_waiting cX3_waiting 4 (some .int), Cond.fieldLink RX3 70 "ShareDiskModel" "tickets" "I", Cond.methodLink RX3 89 yX3_end, Cond.instanceMethod yX3_end, Cond.selects RX3 yX3_end yX3_end, Cond.code yX3_end cX3_end 1 none, Cond.fieldLink RX3 92 "ShareDiskModel" "left" "I", Cond.methodLink RL 60 yL_submit, Cond.static yL_submit, Cond.codeWith yL_submit cL_submit 8 (some .int) [(0, 16, 19, 13)], Cond.methodLink RL 21 yX2_submit, Cond.instanceMethod yX2_submit, Cond.selects RX2 yX2_submit yX2_submit, Cond.code yX2_submit cX2_submit 6 (some .int), Cond.constant RX2 71 (1000000), Cond.fieldLink RX2 79 "ShareDisk" "clock" "J", Cond.methodLink RX2 67 yX2_areOnDisk]
def wsL_law0_r8 : List Cond := [Cond.static yX2_areOnDisk, Cond.code yX2_areOnDisk cX2_areOnDisk 2 (some .boolean), Cond.constant RX2 151 (100000), Cond.methodLink RX2 72 yX1_isFull, Cond.instanceMethod yX1_isFull, Cond.selects RX1 yX1_isFull yX1_isFull, Cond.code yX1_isFull cX1_isFull 1 (some .boolean), Cond.fieldLink RX1 41 "ShareDisk$Requests" "tickets" "I", Cond.methodLink RX2 76 yX0_noteRequest, Cond.instanceMethod yX0_noteRequest, Cond.selects RX0 yX0_noteRequest yX0_noteRequest, Cond.code yX0_noteRequest cX0_noteRequest 4 none, Cond.methodLink RX0 37 Lib.MathLoose.max_long.x, Cond.static Lib.MathLoose.max_long.x, Cond.initialized "java/lang/Math", Cond.code Lib.MathLoose.max_long.x Lib.MathLoose.max_long.code 4 (some .long), Cond.methodLink RX0 43 yX0_forgetLead, Cond.instanceMethod yX0_forgetLead, Cond.selects RX0 yX0_forgetLead yX0_forgetLead, Cond.code yX0_forgetLead cX0_forgetLead 3 none, Cond.methodLink RX2 82 yX1_add, Cond.instanceMethod yX1_add, Cond.selects RX1 yX1_add yX1_add, Cond.code yX1_add cX1_add 9 (some .int)]
def wsL_law0_r9 : List Cond := [Cond.methodLink RX1 51 yX1_mustKeepOrder, Cond.instanceMethod yX1_mustKeepOrder, Cond.selects RX1 yX1_mustKeepOrder yX1_mustKeepOrder, Cond.code yX1_mustKeepOrder cX1_mustKeepOrder 3 (some .boolean), Cond.methodLink RL 63 yX3_submit, Cond.instanceMethod yX3_submit, Cond.selects RX3 yX3_submit yX3_submit, Cond.code yX3_submit cX3_submit 9 (some .int), Cond.constantLong RX3 95 (99999), Cond.constantLong RX3 97 (64), Cond.constantLong RX3 99 (100000), Cond.constantLong RX3 101 (1000000), Cond.fieldLink RX3 107 "ShareDiskModel" "clock" "J", Cond.methodLink RX3 103 yX3_begin, Cond.instanceMethod yX3_begin, Cond.selects RX3 yX3_begin yX3_begin, Cond.code yX3_begin cX3_begin 3 none, Cond.methodLink RL 64 yX2_dispatch, Cond.instanceMethod yX2_dispatch, Cond.selects RX2 yX2_dispatch yX2_dispatch, Cond.code yX2_dispatch cX2_dispatch 3 (some .int), Cond.fieldLink RX2 97 "ShareDisk" "head" "I", Cond.methodLink RX2 86 yX1_mostUrgent, Cond.instanceMethod yX1_mostUrgent]
def wsL_law0_r10 : List Cond := [Cond.selects RX1 yX1_mostUrgent yX1_mostUrgent, Cond.code yX1_mostUrgent cX1_mostUrgent 5 (some .int), Cond.methodLink RX1 55 yX1_stateOf, Cond.instanceMethod yX1_stateOf, Cond.selects RX1 yX1_stateOf yX1_stateOf, Cond.code yX1_stateOf cX1_stateOf 2 (some .int), Cond.methodLink RX2 90 yX2_serve, Cond.instanceMethod yX2_serve, Cond.selects RX2 yX2_serve yX2_serve, Cond.code yX2_serve cX2_serve 5 none, Cond.methodLink RX2 158 yX1_ownerOf, Cond.instanceMethod yX1_ownerOf, Cond.selects RX1 yX1_ownerOf yX1_ownerOf, Cond.code yX1_ownerOf cX1_ownerOf 2 (some .int), Cond.methodLink RX2 161 yX1_sizeOf, Cond.instanceMethod yX1_sizeOf, Cond.selects RX1 yX1_sizeOf yX1_sizeOf, Cond.code yX1_sizeOf cX1_sizeOf 2 (some .int), Cond.methodLink RX2 164 yX1_firstOf, Cond.instanceMethod yX1_firstOf, Cond.selects RX1 yX1_firstOf yX1_firstOf, Cond.code yX1_firstOf cX1_firstOf 2 (some .int), Cond.methodLink RX2 167 yX2_moveHead, Cond.instanceMethod yX2_moveHead]
def wsL_law0_r11 : List Cond := [Cond.selects RX2 yX2_moveHead yX2_moveHead, Cond.code yX2_moveHead cX2_moveHead 4 none, Cond.methodLink RX2 183 Lib.Math.abs.name, Cond.static Lib.Math.abs.name, Cond.code Lib.Math.abs.name Lib.Math.abs.code 1 (some .int), Cond.fieldLink RX2 143 "ShareDisk" "passedOver" "J", Cond.methodLink RX2 170 yX1_markServed, Cond.instanceMethod yX1_markServed, Cond.selects RX1 yX1_markServed yX1_markServed, Cond.code yX1_markServed cX1_markServed 4 none, Cond.fieldLink RX1 45 "ShareDisk$Requests" "served" "I", Cond.fieldLink RX1 48 "ShareDisk$Requests" "urgent" "I", Cond.methodLink RX2 173 yX0_noteService, Cond.instanceMethod yX0_noteService, Cond.selects RX0 yX0_noteService yX0_noteService, Cond.code yX0_noteService cX0_noteService 6 none, Cond.methodLink RX2 176 yX2_takeFromSlice, Cond.instanceMethod yX2_takeFromSlice, Cond.selects RX2 yX2_takeFromSlice yX2_takeFromSlice, Cond.code yX2_takeFromSlice cX2_takeFromSlice 2 none, Cond.methodLink RX2 134 yX1_waiting, Cond.instanceMethod yX1_waiting, Cond.selects RX1 yX1_waiting yX1_waiting, Cond.code yX1_waiting cX1_waiting 1 (some .int)]
def wsL_law0_r12 : List Cond := [Cond.methodLink RX2 179 yX0_greatestTag, Cond.instanceMethod yX0_greatestTag, Cond.selects RX0 yX0_greatestTag yX0_greatestTag, Cond.code yX0_greatestTag cX0_greatestTag 6 (some .long), Cond.methodLink RX2 94 yX2_beginSlice, Cond.instanceMethod yX2_beginSlice, Cond.selects RX2 yX2_beginSlice yX2_beginSlice, Cond.code yX2_beginSlice cX2_beginSlice 2 none, Cond.methodLink RX2 152 yX0_nextInTurn, Cond.instanceMethod yX0_nextInTurn, Cond.selects RX0 yX0_nextInTurn yX0_nextInTurn, Cond.code yX0_nextInTurn cX0_nextInTurn 3 (some .int), Cond.methodLink RX2 155 yX0_budgetOf, Cond.instanceMethod yX0_budgetOf, Cond.selects RX0 yX0_budgetOf yX0_budgetOf, Cond.code yX0_budgetOf cX0_budgetOf 2 (some .int), Cond.methodLink RX2 116 yX0_tagOf, Cond.instanceMethod yX0_tagOf, Cond.selects RX0 yX0_tagOf yX0_tagOf, Cond.code yX0_tagOf cX0_tagOf 2 (some .long), Cond.methodLink RX2 100 yX1_nextAlong, Cond.instanceMethod yX1_nextAlong, Cond.selects RX1 yX1_nextAlong yX1_nextAlong, Cond.code yX1_nextAlong cX1_nextAlong 5 (some .int)]
def wsL_law0_r13 : List Cond := [Cond.methodLink RX1 59 yX1_turnOf, Cond.instanceMethod yX1_turnOf, Cond.selects RX1 yX1_turnOf yX1_turnOf, Cond.code yX1_turnOf cX1_turnOf 3 (some .int), Cond.constant RX1 63 (100000), Cond.methodLink RL 67 yX3_dispatch, Cond.instanceMethod yX3_dispatch, Cond.selects RX3 yX3_dispatch yX3_dispatch, Cond.code yX3_dispatch cX3_dispatch 3 (some .int), Cond.fieldLink RX3 124 "ShareDiskModel" "served" "I", Cond.methodLink RX3 127 yX3_due, Cond.instanceMethod yX3_due, Cond.selects RX3 yX3_due yX3_due, Cond.code yX3_due cX3_due 3 (some .int), Cond.methodLink RX3 114 yX3_canGo, Cond.instanceMethod yX3_canGo, Cond.selects RX3 yX3_canGo yX3_canGo, Cond.code yX3_canGo cX3_canGo 2 (some .boolean), Cond.methodLink RX3 111 yX3_isBlocked, Cond.instanceMethod yX3_isBlocked, Cond.selects RX3 yX3_isBlocked yX3_isBlocked, Cond.code yX3_isBlocked cX3_isBlocked 5 (some .boolean), Cond.methodLink RX3 131 yX3_choose, Cond.instanceMethod yX3_choose]
def wsL_law0_r14 : List Cond := [Cond.selects RX3 yX3_choose yX3_choose, Cond.code yX3_choose cX3_choose 2 none, Cond.methodLink RX3 134 yX3_next, Cond.instanceMethod yX3_next, Cond.selects RX3 yX3_next yX3_next, Cond.code yX3_next cX3_next 3 (some .int), Cond.methodLink RX3 117 yX3_ahead, Cond.instanceMethod yX3_ahead, Cond.selects RX3 yX3_ahead yX3_ahead, Cond.code yX3_ahead cX3_ahead 2 (some .int), Cond.fieldLink RX3 120 "ShareDiskModel" "head" "I", Cond.constant RX3 123 (100000), Cond.methodLink RX3 137 yX3_serve, Cond.instanceMethod yX3_serve, Cond.selects RX3 yX3_serve yX3_serve, Cond.code yX3_serve cX3_serve 8 none, Cond.fieldLink RX3 141 "ShareDiskModel" "passed" "J", Cond.fieldLink RX3 144 "ShareDiskModel" "urgents" "I", Cond.constantLong RX3 147 (27720), Cond.methodLink RL 68 yL_pass, Cond.static yL_pass, Cond.codeWith yL_pass cL_pass 4 (some .int) [(0, 8, 11, 13)], Cond.methodLink RL 25 yX2_pass, Cond.instanceMethod yX2_pass]
def wsL_law0_r15 : List Cond := [Cond.selects RX2 yX2_pass yX2_pass, Cond.code yX2_pass cX2_pass 2 (some .long), Cond.methodLink RL 71 yX3_pass, Cond.instanceMethod yX3_pass, Cond.selects RX3 yX3_pass yX3_pass, Cond.code yX3_pass cX3_pass 2 (some .long), Cond.methodLink RL 72 yL_state, Cond.static yL_state, Cond.codeWith yL_state cL_state 4 (some .int) [(0, 9, 12, 33)], Cond.classLink RL 33 "java/lang/IndexOutOfBoundsException", Cond.methodLink RL 29 yX2_state, Cond.instanceMethod yX2_state, Cond.selects RX2 yX2_state yX2_state, Cond.code yX2_state cX2_state 2 (some .int), Cond.classLink RX2 107 "java/lang/IndexOutOfBoundsException", Cond.initialized "java/lang/IndexOutOfBoundsException", Cond.methodLink RX2 104 yX1_isTicket, Cond.instanceMethod yX1_isTicket, Cond.selects RX1 yX1_isTicket yX1_isTicket, Cond.code yX1_isTicket cX1_isTicket 2 (some .boolean), Cond.methodLink RX2 110 yX1_stateOf, Cond.methodLink RL 74 yX3_state, Cond.instanceMethod yX3_state, Cond.selects RX3 yX3_state yX3_state]
def wsL_law0_r16 : List Cond := [Cond.code yX3_state cX3_state 2 (some .int), Cond.methodLink RL 75 yX2_order, Cond.instanceMethod yX2_order, Cond.selects RX2 yX2_order yX2_order, Cond.code yX2_order cX2_order 2 (some .int), Cond.methodLink RX2 113 yX1_servedAt, Cond.instanceMethod yX1_servedAt, Cond.selects RX1 yX1_servedAt yX1_servedAt, Cond.code yX1_servedAt cX1_servedAt 2 (some .int), Cond.methodLink RL 78 yX3_order, Cond.instanceMethod yX3_order, Cond.selects RX3 yX3_order yX3_order, Cond.code yX3_order cX3_order 2 (some .int), Cond.methodLink RL 79 yL_tag, Cond.static yL_tag, Cond.codeWith yL_tag cL_tag 4 (some .int) [(0, 8, 11, 13)], Cond.methodLink RL 35 yX2_tag, Cond.instanceMethod yX2_tag, Cond.selects RX2 yX2_tag yX2_tag, Cond.code yX2_tag cX2_tag 2 (some .long), Cond.methodLink RL 81 yX3_tag, Cond.instanceMethod yX3_tag, Cond.selects RX3 yX3_tag yX3_tag, Cond.code yX3_tag cX3_tag 2 (some .long)]
def wsL_law0_r17 : List Cond := [Cond.methodLink RL 82 yL_lag, Cond.static yL_lag, Cond.codeWith yL_lag cL_lag 5 (some .int) [(0, 9, 12, 13)], Cond.methodLink RL 38 yX2_lag, Cond.instanceMethod yX2_lag, Cond.selects RX2 yX2_lag yX2_lag, Cond.code yX2_lag cX2_lag 3 (some .long), Cond.methodLink RX2 120 yX0_leadOf, Cond.instanceMethod yX0_leadOf, Cond.selects RX0 yX0_leadOf yX0_leadOf, Cond.code yX0_leadOf cX0_leadOf 3 (some .long), Cond.methodLink RL 85 yX3_lag, Cond.instanceMethod yX3_lag, Cond.selects RX3 yX3_lag yX3_lag, Cond.code yX3_lag cX3_lag 3 (some .long), Cond.methodLink RL 86 yX2_count, Cond.instanceMethod yX2_count, Cond.selects RX2 yX2_count yX2_count, Cond.code yX2_count cX2_count 2 (some .long), Cond.methodLink RX2 124 yX0_sectorsOf, Cond.instanceMethod yX0_sectorsOf, Cond.selects RX0 yX0_sectorsOf yX0_sectorsOf, Cond.code yX0_sectorsOf cX0_sectorsOf 2 (some .int), Cond.methodLink RX2 127 yX2_countOfDisk]
def wsL_law0_r18 : List Cond := [Cond.instanceMethod yX2_countOfDisk, Cond.selects RX2 yX2_countOfDisk yX2_countOfDisk, Cond.code yX2_countOfDisk cX2_countOfDisk 2 (some .long), Cond.constantLong RX2 149 (-1), Cond.methodLink RX2 130 yX0_howMany, Cond.instanceMethod yX0_howMany, Cond.selects RX0 yX0_howMany yX0_howMany, Cond.code yX0_howMany cX0_howMany 3 (some .int), Cond.methodLink RX2 137 yX1_served, Cond.instanceMethod yX1_served, Cond.selects RX1 yX1_served yX1_served, Cond.code yX1_served cX1_served 1 (some .int), Cond.methodLink RX2 140 yX1_urgent, Cond.instanceMethod yX1_urgent, Cond.selects RX1 yX1_urgent yX1_urgent, Cond.code yX1_urgent cX1_urgent 1 (some .int), Cond.methodLink RL 89 yX3_count, Cond.instanceMethod yX3_count, Cond.selects RX3 yX3_count yX3_count, Cond.code yX3_count cX3_count 5 (some .long), Cond.constantLong RX3 149 (8), Cond.constantLong RX3 151 (15), Cond.constantLong RX3 153 (16), Cond.constantLong RX3 155 (23)]
def wsL_law0_r19 : List Cond := [Cond.constantLong RX3 157 (-1)]
def wsL_law0 : List Cond := (wsL_law0_r1 ++ (wsL_law0_r2 ++ (wsL_law0_r3 ++ (wsL_law0_r4 ++ (wsL_law0_r5 ++ (wsL_law0_r6 ++ (wsL_law0_r7 ++ (wsL_law0_r8 ++ (wsL_law0_r9 ++ (wsL_law0_r10 ++ (wsL_law0_r11 ++ (wsL_law0_r12 ++ (wsL_law0_r13 ++ (wsL_law0_r14 ++ (wsL_law0_r15 ++ (wsL_law0_r16 ++ (wsL_law0_r17 ++ (wsL_law0_r18 ++ wsL_law0_r19)))))))))))))))))) ++ wsX20 ++ wsX30 ++ wsX00 ++ wsX10 ++ ([] : List Cond)
def wsL_law : List Cond := wsL_law0 ++ (vx_at0 RX2 33 "java/lang/IllegalArgumentException" ["java/lang/RuntimeException", "java/lang/Exception"]).filter goodWord ++ (vx_at0 RX2 60 "java/lang/IllegalStateException" ["java/lang/RuntimeException", "java/lang/Exception"]).filter goodWord ++ (vx_at0 RX2 109 "java/lang/IndexOutOfBoundsException" ["java/lang/RuntimeException", "java/lang/Exception"]).filter goodWord
abbrev vwCl : List vw_C := [(RX0, TX0, 7), (RX1, TX1, 12), (RX2, TX2, 8), (RX3, TX3, 24)]
end
section
theorem dX0_init_0 : decode cX0_init 0 = .ok (.aload_n 0, 1) := by decide +kernel
theorem dX0_init_1 : decode cX0_init 1 = .ok (.invokespecial 3, 3) := by decide +kernel
theorem dX0_init_4 : decode cX0_init 4 = .ok (.aload_n 0, 1) := by decide +kernel
theorem dX0_init_5 : decode cX0_init 5 = .ok (.bipush 8, 2) := by decide +kernel
theorem dX0_init_7 : decode cX0_init 7 = .ok (.newarray .boolean, 2) := by decide +kernel
theorem dX0_init_9 : decode cX0_init 9 = .ok (.putfield 9, 3) := by decide +kernel
theorem dX0_init_12 : decode cX0_init 12 = .ok (.aload_n 0, 1) := by decide +kernel
theorem dX0_init_13 : decode cX0_init 13 = .ok (.bipush 8, 2) := by decide +kernel
theorem dX0_init_15 : decode cX0_init 15 = .ok (.newarray .int, 2) := by decide +kernel
theorem dX0_init_17 : decode cX0_init 17 = .ok (.putfield 15, 3) := by decide +kernel
theorem dX0_init_20 : decode cX0_init 20 = .ok (.aload_n 0, 1) := by decide +kernel
theorem dX0_init_21 : decode cX0_init 21 = .ok (.bipush 8, 2) := by decide +kernel
theorem dX0_init_23 : decode cX0_init 23 = .ok (.newarray .int, 2) := by decide +kernel
theorem dX0_init_25 : decode cX0_init 25 = .ok (.putfield 19, 3) := by decide +kernel
theorem dX0_init_28 : decode cX0_init 28 = .ok (.aload_n 0, 1) := by decide +kernel
theorem dX0_init_29 : decode cX0_init 29 = .ok (.bipush 8, 2) := by decide +kernel
theorem dX0_init_31 : decode cX0_init 31 = .ok (.newarray .long, 2) := by decide +kernel
theorem dX0_init_33 : decode cX0_init 33 = .ok (.putfield 22, 3) := by decide +kernel
theorem dX0_init_36 : decode cX0_init 36 = .ok (.aload_n 0, 1) := by decide +kernel
theorem dX0_init_37 : decode cX0_init 37 = .ok (.bipush 8, 2) := by decide +kernel
theorem dX0_init_39 : decode cX0_init 39 = .ok (.newarray .int, 2) := by decide +kernel
theorem dX0_init_41 : decode cX0_init 41 = .ok (.putfield 26, 3) := by decide +kernel
theorem dX0_init_44 : decode cX0_init 44 = .ok (.aload_n 0, 1) := by decide +kernel
theorem dX0_init_45 : decode cX0_init 45 = .ok (.bipush 8, 2) := by decide +kernel
theorem dX0_init_47 : decode cX0_init 47 = .ok (.newarray .int, 2) := by decide +kernel
theorem dX0_init_49 : decode cX0_init 49 = .ok (.putfield 29, 3) := by decide +kernel
theorem dX0_init_52 : decode cX0_init 52 = .ok (.aload_n 0, 1) := by decide +kernel
theorem dX0_init_53 : decode cX0_init 53 = .ok (.bipush 8, 2) := by decide +kernel
theorem dX0_init_55 : decode cX0_init 55 = .ok (.bipush 8, 2) := by decide +kernel
theorem dX0_init_57 : decode cX0_init 57 = .ok (.multianewarray 32 2, 4) := by decide +kernel
theorem dX0_init_61 : decode cX0_init 61 = .ok (.putfield 34, 3) := by decide +kernel
theorem dX0_init_64 : decode cX0_init 64 = .ok (.return_, 1) := by decide +kernel
theorem dX0_isThere_0 : decode cX0_isThere 0 = .ok (.aload_n 0, 1) := by decide +kernel
theorem dX0_isThere_1 : decode cX0_isThere 1 = .ok (.getfield 9, 3) := by decide +kernel
theorem dX0_isThere_4 : decode cX0_isThere 4 = .ok (.iload_n 1, 1) := by decide +kernel
theorem dX0_isThere_5 : decode cX0_isThere 5 = .ok (.baload, 1) := by decide +kernel
theorem dX0_isThere_6 : decode cX0_isThere 6 = .ok (.ireturn, 1) := by decide +kernel
theorem dX0_budgetOf_0 : decode cX0_budgetOf 0 = .ok (.aload_n 0, 1) := by decide +kernel
theorem dX0_budgetOf_1 : decode cX0_budgetOf 1 = .ok (.getfield 19, 3) := by decide +kernel
theorem dX0_budgetOf_4 : decode cX0_budgetOf 4 = .ok (.iload_n 1, 1) := by decide +kernel
theorem dX0_budgetOf_5 : decode cX0_budgetOf 5 = .ok (.iaload, 1) := by decide +kernel
theorem dX0_budgetOf_6 : decode cX0_budgetOf 6 = .ok (.ireturn, 1) := by decide +kernel
theorem dX0_tagOf_0 : decode cX0_tagOf 0 = .ok (.aload_n 0, 1) := by decide +kernel
theorem dX0_tagOf_1 : decode cX0_tagOf 1 = .ok (.getfield 22, 3) := by decide +kernel
theorem dX0_tagOf_4 : decode cX0_tagOf 4 = .ok (.iload_n 1, 1) := by decide +kernel
theorem dX0_tagOf_5 : decode cX0_tagOf 5 = .ok (.laload, 1) := by decide +kernel
theorem dX0_tagOf_6 : decode cX0_tagOf 6 = .ok (.lreturn, 1) := by decide +kernel
theorem dX0_waitingOf_0 : decode cX0_waitingOf 0 = .ok (.aload_n 0, 1) := by decide +kernel
theorem dX0_waitingOf_1 : decode cX0_waitingOf 1 = .ok (.getfield 26, 3) := by decide +kernel
theorem dX0_waitingOf_4 : decode cX0_waitingOf 4 = .ok (.iload_n 1, 1) := by decide +kernel
theorem dX0_waitingOf_5 : decode cX0_waitingOf 5 = .ok (.iaload, 1) := by decide +kernel
theorem dX0_waitingOf_6 : decode cX0_waitingOf 6 = .ok (.ireturn, 1) := by decide +kernel
theorem dX0_sectorsOf_0 : decode cX0_sectorsOf 0 = .ok (.aload_n 0, 1) := by decide +kernel
theorem dX0_sectorsOf_1 : decode cX0_sectorsOf 1 = .ok (.getfield 29, 3) := by decide +kernel
theorem dX0_sectorsOf_4 : decode cX0_sectorsOf 4 = .ok (.iload_n 1, 1) := by decide +kernel
theorem dX0_sectorsOf_5 : decode cX0_sectorsOf 5 = .ok (.iaload, 1) := by decide +kernel
theorem dX0_sectorsOf_6 : decode cX0_sectorsOf 6 = .ok (.ireturn, 1) := by decide +kernel
theorem dX0_enter_0 : decode cX0_enter 0 = .ok (.aload_n 0, 1) := by decide +kernel
theorem dX0_enter_1 : decode cX0_enter 1 = .ok (.getfield 9, 3) := by decide +kernel
theorem dX0_enter_4 : decode cX0_enter 4 = .ok (.iload_n 1, 1) := by decide +kernel
theorem dX0_enter_5 : decode cX0_enter 5 = .ok (.iconst 1, 1) := by decide +kernel
theorem dX0_enter_6 : decode cX0_enter 6 = .ok (.bastore, 1) := by decide +kernel
theorem dX0_enter_7 : decode cX0_enter 7 = .ok (.aload_n 0, 1) := by decide +kernel
theorem dX0_enter_8 : decode cX0_enter 8 = .ok (.getfield 22, 3) := by decide +kernel
theorem dX0_enter_11 : decode cX0_enter 11 = .ok (.iload_n 1, 1) := by decide +kernel
theorem dX0_enter_12 : decode cX0_enter 12 = .ok (.lload_n 2, 1) := by decide +kernel
theorem dX0_enter_13 : decode cX0_enter 13 = .ok (.lastore, 1) := by decide +kernel
theorem dX0_enter_14 : decode cX0_enter 14 = .ok (.return_, 1) := by decide +kernel
theorem dX0_setShare_0 : decode cX0_setShare 0 = .ok (.aload_n 0, 1) := by decide +kernel
theorem dX0_setShare_1 : decode cX0_setShare 1 = .ok (.getfield 15, 3) := by decide +kernel
theorem dX0_setShare_4 : decode cX0_setShare 4 = .ok (.iload_n 1, 1) := by decide +kernel
theorem dX0_setShare_5 : decode cX0_setShare 5 = .ok (.iload_n 2, 1) := by decide +kernel
theorem dX0_setShare_6 : decode cX0_setShare 6 = .ok (.iastore, 1) := by decide +kernel
theorem dX0_setShare_7 : decode cX0_setShare 7 = .ok (.aload_n 0, 1) := by decide +kernel
theorem dX0_setShare_8 : decode cX0_setShare 8 = .ok (.getfield 19, 3) := by decide +kernel
theorem dX0_setShare_11 : decode cX0_setShare 11 = .ok (.iload_n 1, 1) := by decide +kernel
theorem dX0_setShare_12 : decode cX0_setShare 12 = .ok (.iload_n 3, 1) := by decide +kernel
theorem dX0_setShare_13 : decode cX0_setShare 13 = .ok (.iastore, 1) := by decide +kernel
theorem dX0_setShare_14 : decode cX0_setShare 14 = .ok (.return_, 1) := by decide +kernel
theorem dX0_leave_0 : decode cX0_leave 0 = .ok (.aload_n 0, 1) := by decide +kernel
theorem dX0_leave_1 : decode cX0_leave 1 = .ok (.getfield 9, 3) := by decide +kernel
theorem dX0_leave_4 : decode cX0_leave 4 = .ok (.iload_n 1, 1) := by decide +kernel
theorem dX0_leave_5 : decode cX0_leave 5 = .ok (.iconst 0, 1) := by decide +kernel
theorem dX0_leave_6 : decode cX0_leave 6 = .ok (.bastore, 1) := by decide +kernel
theorem dX0_leave_7 : decode cX0_leave 7 = .ok (.aload_n 0, 1) := by decide +kernel
theorem dX0_leave_8 : decode cX0_leave 8 = .ok (.getfield 29, 3) := by decide +kernel
theorem dX0_leave_11 : decode cX0_leave 11 = .ok (.iload_n 1, 1) := by decide +kernel
theorem dX0_leave_12 : decode cX0_leave 12 = .ok (.iconst 0, 1) := by decide +kernel
theorem dX0_leave_13 : decode cX0_leave 13 = .ok (.iastore, 1) := by decide +kernel
theorem dX0_leave_14 : decode cX0_leave 14 = .ok (.return_, 1) := by decide +kernel
theorem dX0_howMany_0 : decode cX0_howMany 0 = .ok (.iconst 0, 1) := by decide +kernel
theorem dX0_howMany_1 : decode cX0_howMany 1 = .ok (.istore_n 1, 1) := by decide +kernel
theorem dX0_howMany_2 : decode cX0_howMany 2 = .ok (.iconst 0, 1) := by decide +kernel
theorem dX0_howMany_3 : decode cX0_howMany 3 = .ok (.istore_n 2, 1) := by decide +kernel
theorem dX0_howMany_4 : decode cX0_howMany 4 = .ok (.iload_n 2, 1) := by decide +kernel
theorem dX0_howMany_5 : decode cX0_howMany 5 = .ok (.bipush 8, 2) := by decide +kernel
theorem dX0_howMany_7 : decode cX0_howMany 7 = .ok (.if_icmp .ge 21, 3) := by decide +kernel
theorem dX0_howMany_10 : decode cX0_howMany 10 = .ok (.aload_n 0, 1) := by decide +kernel
theorem dX0_howMany_11 : decode cX0_howMany 11 = .ok (.getfield 9, 3) := by decide +kernel
theorem dX0_howMany_14 : decode cX0_howMany 14 = .ok (.iload_n 2, 1) := by decide +kernel
theorem dX0_howMany_15 : decode cX0_howMany 15 = .ok (.baload, 1) := by decide +kernel
theorem dX0_howMany_16 : decode cX0_howMany 16 = .ok (.ifCond .eq 6, 3) := by decide +kernel
theorem dX0_howMany_19 : decode cX0_howMany 19 = .ok (.iinc 1 1, 3) := by decide +kernel
theorem dX0_howMany_22 : decode cX0_howMany 22 = .ok (.iinc 2 1, 3) := by decide +kernel
theorem dX0_howMany_25 : decode cX0_howMany 25 = .ok (.goto (-21), 3) := by decide +kernel
theorem dX0_howMany_28 : decode cX0_howMany 28 = .ok (.iload_n 1, 1) := by decide +kernel
theorem dX0_howMany_29 : decode cX0_howMany 29 = .ok (.ireturn, 1) := by decide +kernel
set_option maxRecDepth 20000 in
theorem ggX0_noteRequest_X0_forgetLead : GoodIn wsX0_noteRequest wsX0_forgetLead := goodIn_r _ [11, 12, 13, 14, 15, 16, 17, 18, 19] (by decide +kernel) (by decide +kernel)
set_option maxRecDepth 20000 in
theorem gX0_noteRequest_X0_forgetLead : GoodIn wsX0_noteRequest (wsV RX0 43 RX0 yX0_forgetLead wsX0_forgetLead) := goodIn_app (goodIn_of _ (by decide +kernel)) ggX0_noteRequest_X0_forgetLead
theorem dX0_noteRequest_0 : decode cX0_noteRequest 0 = .ok (.aload_n 0, 1) := by decide +kernel
theorem dX0_noteRequest_1 : decode cX0_noteRequest 1 = .ok (.getfield 26, 3) := by decide +kernel
theorem dX0_noteRequest_4 : decode cX0_noteRequest 4 = .ok (.iload_n 1, 1) := by decide +kernel
theorem dX0_noteRequest_5 : decode cX0_noteRequest 5 = .ok (.iaload, 1) := by decide +kernel
theorem dX0_noteRequest_6 : decode cX0_noteRequest 6 = .ok (.ifCond .ne 24, 3) := by decide +kernel
theorem dX0_noteRequest_9 : decode cX0_noteRequest 9 = .ok (.aload_n 0, 1) := by decide +kernel
theorem dX0_noteRequest_10 : decode cX0_noteRequest 10 = .ok (.getfield 22, 3) := by decide +kernel
theorem dX0_noteRequest_13 : decode cX0_noteRequest 13 = .ok (.iload_n 1, 1) := by decide +kernel
theorem dX0_noteRequest_14 : decode cX0_noteRequest 14 = .ok (.aload_n 0, 1) := by decide +kernel
theorem dX0_noteRequest_15 : decode cX0_noteRequest 15 = .ok (.getfield 22, 3) := by decide +kernel
theorem dX0_noteRequest_18 : decode cX0_noteRequest 18 = .ok (.iload_n 1, 1) := by decide +kernel
theorem dX0_noteRequest_19 : decode cX0_noteRequest 19 = .ok (.laload, 1) := by decide +kernel
theorem dX0_noteRequest_20 : decode cX0_noteRequest 20 = .ok (.lload_n 2, 1) := by decide +kernel
theorem dX0_noteRequest_21 : decode cX0_noteRequest 21 = .ok (.invokestatic 37, 3) := by decide +kernel
theorem dX0_noteRequest_24 : decode cX0_noteRequest 24 = .ok (.lastore, 1) := by decide +kernel
theorem dX0_noteRequest_25 : decode cX0_noteRequest 25 = .ok (.aload_n 0, 1) := by decide +kernel
theorem dX0_noteRequest_26 : decode cX0_noteRequest 26 = .ok (.iload_n 1, 1) := by decide +kernel
theorem dX0_noteRequest_27 : decode cX0_noteRequest 27 = .ok (.invokevirtual 43, 3) := by decide +kernel
theorem dX0_noteRequest_30 : decode cX0_noteRequest 30 = .ok (.aload_n 0, 1) := by decide +kernel
theorem dX0_noteRequest_31 : decode cX0_noteRequest 31 = .ok (.getfield 26, 3) := by decide +kernel
theorem dX0_noteRequest_34 : decode cX0_noteRequest 34 = .ok (.iload_n 1, 1) := by decide +kernel
theorem dX0_noteRequest_35 : decode cX0_noteRequest 35 = .ok (.dup2, 1) := by decide +kernel
theorem dX0_noteRequest_36 : decode cX0_noteRequest 36 = .ok (.iaload, 1) := by decide +kernel
theorem dX0_noteRequest_37 : decode cX0_noteRequest 37 = .ok (.iconst 1, 1) := by decide +kernel
theorem dX0_noteRequest_38 : decode cX0_noteRequest 38 = .ok (.iadd, 1) := by decide +kernel
theorem dX0_noteRequest_39 : decode cX0_noteRequest 39 = .ok (.iastore, 1) := by decide +kernel
theorem dX0_noteRequest_40 : decode cX0_noteRequest 40 = .ok (.return_, 1) := by decide +kernel
theorem dX0_forgetLead_0 : decode cX0_forgetLead 0 = .ok (.iconst 0, 1) := by decide +kernel
theorem dX0_forgetLead_1 : decode cX0_forgetLead 1 = .ok (.istore_n 2, 1) := by decide +kernel
theorem dX0_forgetLead_2 : decode cX0_forgetLead 2 = .ok (.iload_n 2, 1) := by decide +kernel
theorem dX0_forgetLead_3 : decode cX0_forgetLead 3 = .ok (.bipush 8, 2) := by decide +kernel
theorem dX0_forgetLead_5 : decode cX0_forgetLead 5 = .ok (.if_icmp .ge 27, 3) := by decide +kernel
theorem dX0_forgetLead_8 : decode cX0_forgetLead 8 = .ok (.aload_n 0, 1) := by decide +kernel
theorem dX0_forgetLead_9 : decode cX0_forgetLead 9 = .ok (.getfield 34, 3) := by decide +kernel
theorem dX0_forgetLead_12 : decode cX0_forgetLead 12 = .ok (.iload_n 1, 1) := by decide +kernel
theorem dX0_forgetLead_13 : decode cX0_forgetLead 13 = .ok (.aaload, 1) := by decide +kernel
theorem dX0_forgetLead_14 : decode cX0_forgetLead 14 = .ok (.iload_n 2, 1) := by decide +kernel
theorem dX0_forgetLead_15 : decode cX0_forgetLead 15 = .ok (.lconst 0, 1) := by decide +kernel
theorem dX0_forgetLead_16 : decode cX0_forgetLead 16 = .ok (.lastore, 1) := by decide +kernel
theorem dX0_forgetLead_17 : decode cX0_forgetLead 17 = .ok (.aload_n 0, 1) := by decide +kernel
theorem dX0_forgetLead_18 : decode cX0_forgetLead 18 = .ok (.getfield 34, 3) := by decide +kernel
theorem dX0_forgetLead_21 : decode cX0_forgetLead 21 = .ok (.iload_n 2, 1) := by decide +kernel
theorem dX0_forgetLead_22 : decode cX0_forgetLead 22 = .ok (.aaload, 1) := by decide +kernel
theorem dX0_forgetLead_23 : decode cX0_forgetLead 23 = .ok (.iload_n 1, 1) := by decide +kernel
theorem dX0_forgetLead_24 : decode cX0_forgetLead 24 = .ok (.lconst 0, 1) := by decide +kernel
theorem dX0_forgetLead_25 : decode cX0_forgetLead 25 = .ok (.lastore, 1) := by decide +kernel
theorem dX0_forgetLead_26 : decode cX0_forgetLead 26 = .ok (.iinc 2 1, 3) := by decide +kernel
theorem dX0_forgetLead_29 : decode cX0_forgetLead 29 = .ok (.goto (-27), 3) := by decide +kernel
theorem dX0_forgetLead_32 : decode cX0_forgetLead 32 = .ok (.return_, 1) := by decide +kernel
theorem dX0_noteService_0 : decode cX0_noteService 0 = .ok (.aload_n 0, 1) := by decide +kernel
theorem dX0_noteService_1 : decode cX0_noteService 1 = .ok (.getfield 15, 3) := by decide +kernel
theorem dX0_noteService_4 : decode cX0_noteService 4 = .ok (.iload_n 1, 1) := by decide +kernel
theorem dX0_noteService_5 : decode cX0_noteService 5 = .ok (.iaload, 1) := by decide +kernel
theorem dX0_noteService_6 : decode cX0_noteService 6 = .ok (.i2l, 1) := by decide +kernel
theorem dX0_noteService_7 : decode cX0_noteService 7 = .ok (.iload_n 2, 1) := by decide +kernel
theorem dX0_noteService_8 : decode cX0_noteService 8 = .ok (.i2l, 1) := by decide +kernel
theorem dX0_noteService_9 : decode cX0_noteService 9 = .ok (.lmul, 1) := by decide +kernel
theorem dX0_noteService_10 : decode cX0_noteService 10 = .ok (.lstore_n 3, 1) := by decide +kernel
theorem dX0_noteService_11 : decode cX0_noteService 11 = .ok (.aload_n 0, 1) := by decide +kernel
theorem dX0_noteService_12 : decode cX0_noteService 12 = .ok (.getfield 22, 3) := by decide +kernel
theorem dX0_noteService_15 : decode cX0_noteService 15 = .ok (.iload_n 1, 1) := by decide +kernel
theorem dX0_noteService_16 : decode cX0_noteService 16 = .ok (.dup2, 1) := by decide +kernel
theorem dX0_noteService_17 : decode cX0_noteService 17 = .ok (.laload, 1) := by decide +kernel
theorem dX0_noteService_18 : decode cX0_noteService 18 = .ok (.lload_n 3, 1) := by decide +kernel
theorem dX0_noteService_19 : decode cX0_noteService 19 = .ok (.ladd, 1) := by decide +kernel
theorem dX0_noteService_20 : decode cX0_noteService 20 = .ok (.lastore, 1) := by decide +kernel
theorem dX0_noteService_21 : decode cX0_noteService 21 = .ok (.aload_n 0, 1) := by decide +kernel
theorem dX0_noteService_22 : decode cX0_noteService 22 = .ok (.getfield 29, 3) := by decide +kernel
theorem dX0_noteService_25 : decode cX0_noteService 25 = .ok (.iload_n 1, 1) := by decide +kernel
theorem dX0_noteService_26 : decode cX0_noteService 26 = .ok (.dup2, 1) := by decide +kernel
theorem dX0_noteService_27 : decode cX0_noteService 27 = .ok (.iaload, 1) := by decide +kernel
theorem dX0_noteService_28 : decode cX0_noteService 28 = .ok (.iload_n 2, 1) := by decide +kernel
theorem dX0_noteService_29 : decode cX0_noteService 29 = .ok (.iadd, 1) := by decide +kernel
theorem dX0_noteService_30 : decode cX0_noteService 30 = .ok (.iastore, 1) := by decide +kernel
theorem dX0_noteService_31 : decode cX0_noteService 31 = .ok (.aload_n 0, 1) := by decide +kernel
theorem dX0_noteService_32 : decode cX0_noteService 32 = .ok (.getfield 26, 3) := by decide +kernel
theorem dX0_noteService_35 : decode cX0_noteService 35 = .ok (.iload_n 1, 1) := by decide +kernel
theorem dX0_noteService_36 : decode cX0_noteService 36 = .ok (.dup2, 1) := by decide +kernel
theorem dX0_noteService_37 : decode cX0_noteService 37 = .ok (.iaload, 1) := by decide +kernel
theorem dX0_noteService_38 : decode cX0_noteService 38 = .ok (.iconst 1, 1) := by decide +kernel
theorem dX0_noteService_39 : decode cX0_noteService 39 = .ok (.isub, 1) := by decide +kernel
theorem dX0_noteService_40 : decode cX0_noteService 40 = .ok (.iastore, 1) := by decide +kernel
theorem dX0_noteService_41 : decode cX0_noteService 41 = .ok (.iconst 0, 1) := by decide +kernel
theorem dX0_noteService_42 : decode cX0_noteService 42 = .ok (.istore 5, 2) := by decide +kernel
theorem dX0_noteService_44 : decode cX0_noteService 44 = .ok (.iload 5, 2) := by decide +kernel
theorem dX0_noteService_46 : decode cX0_noteService 46 = .ok (.bipush 8, 2) := by decide +kernel
theorem dX0_noteService_48 : decode cX0_noteService 48 = .ok (.if_icmp .ge 35, 3) := by decide +kernel
theorem dX0_noteService_51 : decode cX0_noteService 51 = .ok (.aload_n 0, 1) := by decide +kernel
theorem dX0_noteService_52 : decode cX0_noteService 52 = .ok (.getfield 34, 3) := by decide +kernel
theorem dX0_noteService_55 : decode cX0_noteService 55 = .ok (.iload_n 1, 1) := by decide +kernel
theorem dX0_noteService_56 : decode cX0_noteService 56 = .ok (.aaload, 1) := by decide +kernel
theorem dX0_noteService_57 : decode cX0_noteService 57 = .ok (.iload 5, 2) := by decide +kernel
theorem dX0_noteService_59 : decode cX0_noteService 59 = .ok (.dup2, 1) := by decide +kernel
theorem dX0_noteService_60 : decode cX0_noteService 60 = .ok (.laload, 1) := by decide +kernel
theorem dX0_noteService_61 : decode cX0_noteService 61 = .ok (.lload_n 3, 1) := by decide +kernel
theorem dX0_noteService_62 : decode cX0_noteService 62 = .ok (.ladd, 1) := by decide +kernel
theorem dX0_noteService_63 : decode cX0_noteService 63 = .ok (.lastore, 1) := by decide +kernel
theorem dX0_noteService_64 : decode cX0_noteService 64 = .ok (.aload_n 0, 1) := by decide +kernel
theorem dX0_noteService_65 : decode cX0_noteService 65 = .ok (.getfield 34, 3) := by decide +kernel
theorem dX0_noteService_68 : decode cX0_noteService 68 = .ok (.iload 5, 2) := by decide +kernel
theorem dX0_noteService_70 : decode cX0_noteService 70 = .ok (.aaload, 1) := by decide +kernel
theorem dX0_noteService_71 : decode cX0_noteService 71 = .ok (.iload_n 1, 1) := by decide +kernel
theorem dX0_noteService_72 : decode cX0_noteService 72 = .ok (.dup2, 1) := by decide +kernel
theorem dX0_noteService_73 : decode cX0_noteService 73 = .ok (.laload, 1) := by decide +kernel
theorem dX0_noteService_74 : decode cX0_noteService 74 = .ok (.lload_n 3, 1) := by decide +kernel
theorem dX0_noteService_75 : decode cX0_noteService 75 = .ok (.lsub, 1) := by decide +kernel
theorem dX0_noteService_76 : decode cX0_noteService 76 = .ok (.lastore, 1) := by decide +kernel
theorem dX0_noteService_77 : decode cX0_noteService 77 = .ok (.iinc 5 1, 3) := by decide +kernel
theorem dX0_noteService_80 : decode cX0_noteService 80 = .ok (.goto (-36), 3) := by decide +kernel
theorem dX0_noteService_83 : decode cX0_noteService 83 = .ok (.return_, 1) := by decide +kernel
theorem dX0_leadOf_0 : decode cX0_leadOf 0 = .ok (.aload_n 0, 1) := by decide +kernel
theorem dX0_leadOf_1 : decode cX0_leadOf 1 = .ok (.getfield 26, 3) := by decide +kernel
theorem dX0_leadOf_4 : decode cX0_leadOf 4 = .ok (.iload_n 1, 1) := by decide +kernel
theorem dX0_leadOf_5 : decode cX0_leadOf 5 = .ok (.iaload, 1) := by decide +kernel
theorem dX0_leadOf_6 : decode cX0_leadOf 6 = .ok (.ifCond .le 23, 3) := by decide +kernel
theorem dX0_leadOf_9 : decode cX0_leadOf 9 = .ok (.aload_n 0, 1) := by decide +kernel
theorem dX0_leadOf_10 : decode cX0_leadOf 10 = .ok (.getfield 26, 3) := by decide +kernel
theorem dX0_leadOf_13 : decode cX0_leadOf 13 = .ok (.iload_n 2, 1) := by decide +kernel
theorem dX0_leadOf_14 : decode cX0_leadOf 14 = .ok (.iaload, 1) := by decide +kernel
theorem dX0_leadOf_15 : decode cX0_leadOf 15 = .ok (.ifCond .le 14, 3) := by decide +kernel
theorem dX0_leadOf_18 : decode cX0_leadOf 18 = .ok (.aload_n 0, 1) := by decide +kernel
theorem dX0_leadOf_19 : decode cX0_leadOf 19 = .ok (.getfield 34, 3) := by decide +kernel
theorem dX0_leadOf_22 : decode cX0_leadOf 22 = .ok (.iload_n 1, 1) := by decide +kernel
theorem dX0_leadOf_23 : decode cX0_leadOf 23 = .ok (.aaload, 1) := by decide +kernel
theorem dX0_leadOf_24 : decode cX0_leadOf 24 = .ok (.iload_n 2, 1) := by decide +kernel
theorem dX0_leadOf_25 : decode cX0_leadOf 25 = .ok (.laload, 1) := by decide +kernel
theorem dX0_leadOf_26 : decode cX0_leadOf 26 = .ok (.goto 4, 3) := by decide +kernel
theorem dX0_leadOf_29 : decode cX0_leadOf 29 = .ok (.lconst 0, 1) := by decide +kernel
theorem dX0_leadOf_30 : decode cX0_leadOf 30 = .ok (.lreturn, 1) := by decide +kernel
theorem dX0_nextInTurn_0 : decode cX0_nextInTurn 0 = .ok (.iconst (-1), 1) := by decide +kernel
theorem dX0_nextInTurn_1 : decode cX0_nextInTurn 1 = .ok (.istore_n 1, 1) := by decide +kernel
theorem dX0_nextInTurn_2 : decode cX0_nextInTurn 2 = .ok (.iconst 0, 1) := by decide +kernel
theorem dX0_nextInTurn_3 : decode cX0_nextInTurn 3 = .ok (.istore_n 2, 1) := by decide +kernel
theorem dX0_nextInTurn_4 : decode cX0_nextInTurn 4 = .ok (.iload_n 2, 1) := by decide +kernel
theorem dX0_nextInTurn_5 : decode cX0_nextInTurn 5 = .ok (.bipush 8, 2) := by decide +kernel
theorem dX0_nextInTurn_7 : decode cX0_nextInTurn 7 = .ok (.if_icmp .ge 41, 3) := by decide +kernel
theorem dX0_nextInTurn_10 : decode cX0_nextInTurn 10 = .ok (.aload_n 0, 1) := by decide +kernel
theorem dX0_nextInTurn_11 : decode cX0_nextInTurn 11 = .ok (.getfield 26, 3) := by decide +kernel
theorem dX0_nextInTurn_14 : decode cX0_nextInTurn 14 = .ok (.iload_n 2, 1) := by decide +kernel
theorem dX0_nextInTurn_15 : decode cX0_nextInTurn 15 = .ok (.iaload, 1) := by decide +kernel
theorem dX0_nextInTurn_16 : decode cX0_nextInTurn 16 = .ok (.ifCond .le 26, 3) := by decide +kernel
theorem dX0_nextInTurn_19 : decode cX0_nextInTurn 19 = .ok (.iload_n 1, 1) := by decide +kernel
theorem dX0_nextInTurn_20 : decode cX0_nextInTurn 20 = .ok (.iconst (-1), 1) := by decide +kernel
theorem dX0_nextInTurn_21 : decode cX0_nextInTurn 21 = .ok (.if_icmp .eq 19, 3) := by decide +kernel
theorem dX0_nextInTurn_24 : decode cX0_nextInTurn 24 = .ok (.aload_n 0, 1) := by decide +kernel
theorem dX0_nextInTurn_25 : decode cX0_nextInTurn 25 = .ok (.getfield 22, 3) := by decide +kernel
theorem dX0_nextInTurn_28 : decode cX0_nextInTurn 28 = .ok (.iload_n 2, 1) := by decide +kernel
theorem dX0_nextInTurn_29 : decode cX0_nextInTurn 29 = .ok (.laload, 1) := by decide +kernel
theorem dX0_nextInTurn_30 : decode cX0_nextInTurn 30 = .ok (.aload_n 0, 1) := by decide +kernel
theorem dX0_nextInTurn_31 : decode cX0_nextInTurn 31 = .ok (.getfield 22, 3) := by decide +kernel
theorem dX0_nextInTurn_34 : decode cX0_nextInTurn 34 = .ok (.iload_n 1, 1) := by decide +kernel
theorem dX0_nextInTurn_35 : decode cX0_nextInTurn 35 = .ok (.laload, 1) := by decide +kernel
theorem dX0_nextInTurn_36 : decode cX0_nextInTurn 36 = .ok (.lcmp, 1) := by decide +kernel
theorem dX0_nextInTurn_37 : decode cX0_nextInTurn 37 = .ok (.ifCond .ge 5, 3) := by decide +kernel
theorem dX0_nextInTurn_40 : decode cX0_nextInTurn 40 = .ok (.iload_n 2, 1) := by decide +kernel
theorem dX0_nextInTurn_41 : decode cX0_nextInTurn 41 = .ok (.istore_n 1, 1) := by decide +kernel
theorem dX0_nextInTurn_42 : decode cX0_nextInTurn 42 = .ok (.iinc 2 1, 3) := by decide +kernel
theorem dX0_nextInTurn_45 : decode cX0_nextInTurn 45 = .ok (.goto (-41), 3) := by decide +kernel
theorem dX0_nextInTurn_48 : decode cX0_nextInTurn 48 = .ok (.iload_n 1, 1) := by decide +kernel
theorem dX0_nextInTurn_49 : decode cX0_nextInTurn 49 = .ok (.ireturn, 1) := by decide +kernel
theorem dX0_greatestTag_0 : decode cX0_greatestTag 0 = .ok (.lload_n 1, 1) := by decide +kernel
theorem dX0_greatestTag_1 : decode cX0_greatestTag 1 = .ok (.lstore_n 3, 1) := by decide +kernel
theorem dX0_greatestTag_2 : decode cX0_greatestTag 2 = .ok (.iconst 0, 1) := by decide +kernel
theorem dX0_greatestTag_3 : decode cX0_greatestTag 3 = .ok (.istore 5, 2) := by decide +kernel
theorem dX0_greatestTag_5 : decode cX0_greatestTag 5 = .ok (.iload 5, 2) := by decide +kernel
theorem dX0_greatestTag_7 : decode cX0_greatestTag 7 = .ok (.bipush 8, 2) := by decide +kernel
theorem dX0_greatestTag_9 : decode cX0_greatestTag 9 = .ok (.if_icmp .ge 31, 3) := by decide +kernel
theorem dX0_greatestTag_12 : decode cX0_greatestTag 12 = .ok (.aload_n 0, 1) := by decide +kernel
theorem dX0_greatestTag_13 : decode cX0_greatestTag 13 = .ok (.getfield 9, 3) := by decide +kernel
theorem dX0_greatestTag_16 : decode cX0_greatestTag 16 = .ok (.iload 5, 2) := by decide +kernel
theorem dX0_greatestTag_18 : decode cX0_greatestTag 18 = .ok (.baload, 1) := by decide +kernel
theorem dX0_greatestTag_19 : decode cX0_greatestTag 19 = .ok (.ifCond .eq 15, 3) := by decide +kernel
theorem dX0_greatestTag_22 : decode cX0_greatestTag 22 = .ok (.lload_n 3, 1) := by decide +kernel
theorem dX0_greatestTag_23 : decode cX0_greatestTag 23 = .ok (.aload_n 0, 1) := by decide +kernel
theorem dX0_greatestTag_24 : decode cX0_greatestTag 24 = .ok (.getfield 22, 3) := by decide +kernel
theorem dX0_greatestTag_27 : decode cX0_greatestTag 27 = .ok (.iload 5, 2) := by decide +kernel
theorem dX0_greatestTag_29 : decode cX0_greatestTag 29 = .ok (.laload, 1) := by decide +kernel
theorem dX0_greatestTag_30 : decode cX0_greatestTag 30 = .ok (.invokestatic 37, 3) := by decide +kernel
theorem dX0_greatestTag_33 : decode cX0_greatestTag 33 = .ok (.lstore_n 3, 1) := by decide +kernel
theorem dX0_greatestTag_34 : decode cX0_greatestTag 34 = .ok (.iinc 5 1, 3) := by decide +kernel
theorem dX0_greatestTag_37 : decode cX0_greatestTag 37 = .ok (.goto (-32), 3) := by decide +kernel
theorem dX0_greatestTag_40 : decode cX0_greatestTag 40 = .ok (.lload_n 3, 1) := by decide +kernel
theorem dX0_greatestTag_41 : decode cX0_greatestTag 41 = .ok (.lreturn, 1) := by decide +kernel
theorem dX1_init_0 : decode cX1_init 0 = .ok (.aload_n 0, 1) := by decide +kernel
theorem dX1_init_1 : decode cX1_init 1 = .ok (.invokespecial 3, 3) := by decide +kernel
theorem dX1_init_4 : decode cX1_init 4 = .ok (.aload_n 0, 1) := by decide +kernel
theorem dX1_init_5 : decode cX1_init 5 = .ok (.sipush 500, 3) := by decide +kernel
theorem dX1_init_8 : decode cX1_init 8 = .ok (.newarray .int, 2) := by decide +kernel
theorem dX1_init_10 : decode cX1_init 10 = .ok (.putfield 9, 3) := by decide +kernel
theorem dX1_init_13 : decode cX1_init 13 = .ok (.aload_n 0, 1) := by decide +kernel
theorem dX1_init_14 : decode cX1_init 14 = .ok (.sipush 500, 3) := by decide +kernel
theorem dX1_init_17 : decode cX1_init 17 = .ok (.newarray .boolean, 2) := by decide +kernel
theorem dX1_init_19 : decode cX1_init 19 = .ok (.putfield 15, 3) := by decide +kernel
theorem dX1_init_22 : decode cX1_init 22 = .ok (.aload_n 0, 1) := by decide +kernel
theorem dX1_init_23 : decode cX1_init 23 = .ok (.sipush 500, 3) := by decide +kernel
theorem dX1_init_26 : decode cX1_init 26 = .ok (.newarray .int, 2) := by decide +kernel
theorem dX1_init_28 : decode cX1_init 28 = .ok (.putfield 19, 3) := by decide +kernel
theorem dX1_init_31 : decode cX1_init 31 = .ok (.aload_n 0, 1) := by decide +kernel
theorem dX1_init_32 : decode cX1_init 32 = .ok (.sipush 500, 3) := by decide +kernel
theorem dX1_init_35 : decode cX1_init 35 = .ok (.newarray .int, 2) := by decide +kernel
theorem dX1_init_37 : decode cX1_init 37 = .ok (.putfield 22, 3) := by decide +kernel
theorem dX1_init_40 : decode cX1_init 40 = .ok (.aload_n 0, 1) := by decide +kernel
theorem dX1_init_41 : decode cX1_init 41 = .ok (.sipush 500, 3) := by decide +kernel
theorem dX1_init_44 : decode cX1_init 44 = .ok (.newarray .long, 2) := by decide +kernel
theorem dX1_init_46 : decode cX1_init 46 = .ok (.putfield 25, 3) := by decide +kernel
theorem dX1_init_49 : decode cX1_init 49 = .ok (.aload_n 0, 1) := by decide +kernel
theorem dX1_init_50 : decode cX1_init 50 = .ok (.sipush 500, 3) := by decide +kernel
theorem dX1_init_53 : decode cX1_init 53 = .ok (.newarray .boolean, 2) := by decide +kernel
theorem dX1_init_55 : decode cX1_init 55 = .ok (.putfield 29, 3) := by decide +kernel
theorem dX1_init_58 : decode cX1_init 58 = .ok (.aload_n 0, 1) := by decide +kernel
theorem dX1_init_59 : decode cX1_init 59 = .ok (.sipush 500, 3) := by decide +kernel
theorem dX1_init_62 : decode cX1_init 62 = .ok (.newarray .int, 2) := by decide +kernel
theorem dX1_init_64 : decode cX1_init 64 = .ok (.putfield 32, 3) := by decide +kernel
theorem dX1_init_67 : decode cX1_init 67 = .ok (.aload_n 0, 1) := by decide +kernel
theorem dX1_init_68 : decode cX1_init 68 = .ok (.sipush 500, 3) := by decide +kernel
theorem dX1_init_71 : decode cX1_init 71 = .ok (.newarray .int, 2) := by decide +kernel
theorem dX1_init_73 : decode cX1_init 73 = .ok (.putfield 35, 3) := by decide +kernel
theorem dX1_init_76 : decode cX1_init 76 = .ok (.aload_n 0, 1) := by decide +kernel
theorem dX1_init_77 : decode cX1_init 77 = .ok (.sipush 500, 3) := by decide +kernel
theorem dX1_init_80 : decode cX1_init 80 = .ok (.newarray .int, 2) := by decide +kernel
theorem dX1_init_82 : decode cX1_init 82 = .ok (.putfield 38, 3) := by decide +kernel
theorem dX1_init_85 : decode cX1_init 85 = .ok (.return_, 1) := by decide +kernel
theorem dX1_isFull_0 : decode cX1_isFull 0 = .ok (.aload_n 0, 1) := by decide +kernel
theorem dX1_isFull_1 : decode cX1_isFull 1 = .ok (.getfield 41, 3) := by decide +kernel
theorem dX1_isFull_4 : decode cX1_isFull 4 = .ok (.sipush 500, 3) := by decide +kernel
theorem dX1_isFull_7 : decode cX1_isFull 7 = .ok (.if_icmp .lt 7, 3) := by decide +kernel
theorem dX1_isFull_10 : decode cX1_isFull 10 = .ok (.iconst 1, 1) := by decide +kernel
theorem dX1_isFull_11 : decode cX1_isFull 11 = .ok (.goto 4, 3) := by decide +kernel
theorem dX1_isFull_14 : decode cX1_isFull 14 = .ok (.iconst 0, 1) := by decide +kernel
theorem dX1_isFull_15 : decode cX1_isFull 15 = .ok (.ireturn, 1) := by decide +kernel
theorem dX1_isTicket_0 : decode cX1_isTicket 0 = .ok (.iload_n 1, 1) := by decide +kernel
theorem dX1_isTicket_1 : decode cX1_isTicket 1 = .ok (.ifCond .lt 15, 3) := by decide +kernel
theorem dX1_isTicket_4 : decode cX1_isTicket 4 = .ok (.iload_n 1, 1) := by decide +kernel
theorem dX1_isTicket_5 : decode cX1_isTicket 5 = .ok (.aload_n 0, 1) := by decide +kernel
theorem dX1_isTicket_6 : decode cX1_isTicket 6 = .ok (.getfield 41, 3) := by decide +kernel
theorem dX1_isTicket_9 : decode cX1_isTicket 9 = .ok (.if_icmp .ge 7, 3) := by decide +kernel
theorem dX1_isTicket_12 : decode cX1_isTicket 12 = .ok (.iconst 1, 1) := by decide +kernel
theorem dX1_isTicket_13 : decode cX1_isTicket 13 = .ok (.goto 4, 3) := by decide +kernel
theorem dX1_isTicket_16 : decode cX1_isTicket 16 = .ok (.iconst 0, 1) := by decide +kernel
theorem dX1_isTicket_17 : decode cX1_isTicket 17 = .ok (.ireturn, 1) := by decide +kernel
theorem dX1_ownerOf_0 : decode cX1_ownerOf 0 = .ok (.aload_n 0, 1) := by decide +kernel
theorem dX1_ownerOf_1 : decode cX1_ownerOf 1 = .ok (.getfield 9, 3) := by decide +kernel
theorem dX1_ownerOf_4 : decode cX1_ownerOf 4 = .ok (.iload_n 1, 1) := by decide +kernel
theorem dX1_ownerOf_5 : decode cX1_ownerOf 5 = .ok (.iaload, 1) := by decide +kernel
theorem dX1_ownerOf_6 : decode cX1_ownerOf 6 = .ok (.ireturn, 1) := by decide +kernel
theorem dX1_firstOf_0 : decode cX1_firstOf 0 = .ok (.aload_n 0, 1) := by decide +kernel
theorem dX1_firstOf_1 : decode cX1_firstOf 1 = .ok (.getfield 19, 3) := by decide +kernel
theorem dX1_firstOf_4 : decode cX1_firstOf 4 = .ok (.iload_n 1, 1) := by decide +kernel
theorem dX1_firstOf_5 : decode cX1_firstOf 5 = .ok (.iaload, 1) := by decide +kernel
theorem dX1_firstOf_6 : decode cX1_firstOf 6 = .ok (.ireturn, 1) := by decide +kernel
theorem dX1_sizeOf_0 : decode cX1_sizeOf 0 = .ok (.aload_n 0, 1) := by decide +kernel
theorem dX1_sizeOf_1 : decode cX1_sizeOf 1 = .ok (.getfield 22, 3) := by decide +kernel
theorem dX1_sizeOf_4 : decode cX1_sizeOf 4 = .ok (.iload_n 1, 1) := by decide +kernel
theorem dX1_sizeOf_5 : decode cX1_sizeOf 5 = .ok (.iaload, 1) := by decide +kernel
theorem dX1_sizeOf_6 : decode cX1_sizeOf 6 = .ok (.ireturn, 1) := by decide +kernel
theorem dX1_waiting_0 : decode cX1_waiting 0 = .ok (.aload_n 0, 1) := by decide +kernel
theorem dX1_waiting_1 : decode cX1_waiting 1 = .ok (.getfield 41, 3) := by decide +kernel
theorem dX1_waiting_4 : decode cX1_waiting 4 = .ok (.aload_n 0, 1) := by decide +kernel
theorem dX1_waiting_5 : decode cX1_waiting 5 = .ok (.getfield 45, 3) := by decide +kernel
theorem dX1_waiting_8 : decode cX1_waiting 8 = .ok (.isub, 1) := by decide +kernel
theorem dX1_waiting_9 : decode cX1_waiting 9 = .ok (.ireturn, 1) := by decide +kernel
theorem dX1_served_0 : decode cX1_served 0 = .ok (.aload_n 0, 1) := by decide +kernel
theorem dX1_served_1 : decode cX1_served 1 = .ok (.getfield 45, 3) := by decide +kernel
theorem dX1_served_4 : decode cX1_served 4 = .ok (.ireturn, 1) := by decide +kernel
theorem dX1_urgent_0 : decode cX1_urgent 0 = .ok (.aload_n 0, 1) := by decide +kernel
theorem dX1_urgent_1 : decode cX1_urgent 1 = .ok (.getfield 48, 3) := by decide +kernel
theorem dX1_urgent_4 : decode cX1_urgent 4 = .ok (.ireturn, 1) := by decide +kernel
theorem dX1_servedAt_0 : decode cX1_servedAt 0 = .ok (.iload_n 1, 1) := by decide +kernel
theorem dX1_servedAt_1 : decode cX1_servedAt 1 = .ok (.ifCond .lt 20, 3) := by decide +kernel
theorem dX1_servedAt_4 : decode cX1_servedAt 4 = .ok (.iload_n 1, 1) := by decide +kernel
theorem dX1_servedAt_5 : decode cX1_servedAt 5 = .ok (.aload_n 0, 1) := by decide +kernel
theorem dX1_servedAt_6 : decode cX1_servedAt 6 = .ok (.getfield 45, 3) := by decide +kernel
theorem dX1_servedAt_9 : decode cX1_servedAt 9 = .ok (.if_icmp .ge 12, 3) := by decide +kernel
theorem dX1_servedAt_12 : decode cX1_servedAt 12 = .ok (.aload_n 0, 1) := by decide +kernel
theorem dX1_servedAt_13 : decode cX1_servedAt 13 = .ok (.getfield 38, 3) := by decide +kernel
theorem dX1_servedAt_16 : decode cX1_servedAt 16 = .ok (.iload_n 1, 1) := by decide +kernel
theorem dX1_servedAt_17 : decode cX1_servedAt 17 = .ok (.iaload, 1) := by decide +kernel
theorem dX1_servedAt_18 : decode cX1_servedAt 18 = .ok (.goto 4, 3) := by decide +kernel
theorem dX1_servedAt_21 : decode cX1_servedAt 21 = .ok (.iconst (-1), 1) := by decide +kernel
theorem dX1_servedAt_22 : decode cX1_servedAt 22 = .ok (.ireturn, 1) := by decide +kernel
theorem dX1_stateOf_0 : decode cX1_stateOf 0 = .ok (.aload_n 0, 1) := by decide +kernel
theorem dX1_stateOf_1 : decode cX1_stateOf 1 = .ok (.getfield 29, 3) := by decide +kernel
theorem dX1_stateOf_4 : decode cX1_stateOf 4 = .ok (.iload_n 1, 1) := by decide +kernel
theorem dX1_stateOf_5 : decode cX1_stateOf 5 = .ok (.baload, 1) := by decide +kernel
theorem dX1_stateOf_6 : decode cX1_stateOf 6 = .ok (.ifCond .ne 10, 3) := by decide +kernel
theorem dX1_stateOf_9 : decode cX1_stateOf 9 = .ok (.aload_n 0, 1) := by decide +kernel
theorem dX1_stateOf_10 : decode cX1_stateOf 10 = .ok (.getfield 35, 3) := by decide +kernel
theorem dX1_stateOf_13 : decode cX1_stateOf 13 = .ok (.iload_n 1, 1) := by decide +kernel
theorem dX1_stateOf_14 : decode cX1_stateOf 14 = .ok (.iaload, 1) := by decide +kernel
theorem dX1_stateOf_15 : decode cX1_stateOf 15 = .ok (.ireturn, 1) := by decide +kernel
theorem dX1_stateOf_16 : decode cX1_stateOf 16 = .ok (.aload_n 0, 1) := by decide +kernel
theorem dX1_stateOf_17 : decode cX1_stateOf 17 = .ok (.getfield 32, 3) := by decide +kernel
theorem dX1_stateOf_20 : decode cX1_stateOf 20 = .ok (.iload_n 1, 1) := by decide +kernel
theorem dX1_stateOf_21 : decode cX1_stateOf 21 = .ok (.iaload, 1) := by decide +kernel
theorem dX1_stateOf_22 : decode cX1_stateOf 22 = .ok (.ifCond .le 7, 3) := by decide +kernel
theorem dX1_stateOf_25 : decode cX1_stateOf 25 = .ok (.iconst 0, 1) := by decide +kernel
theorem dX1_stateOf_26 : decode cX1_stateOf 26 = .ok (.goto 4, 3) := by decide +kernel
theorem dX1_stateOf_29 : decode cX1_stateOf 29 = .ok (.iconst 1, 1) := by decide +kernel
theorem dX1_stateOf_30 : decode cX1_stateOf 30 = .ok (.ireturn, 1) := by decide +kernel
set_option maxRecDepth 20000 in
theorem ggX1_add_X1_mustKeepOrder : GoodIn wsX1_add wsX1_mustKeepOrder := goodIn_r _ [13, 2, 3, 4, 5, 14, 15, 16, 17, 18, 19, 20, 21, 22, 23, 24, 25] (by decide +kernel) (by decide +kernel)
set_option maxRecDepth 20000 in
theorem gX1_add_X1_mustKeepOrder : GoodIn wsX1_add (wsV RX1 51 RX1 yX1_mustKeepOrder wsX1_mustKeepOrder) := goodIn_app (goodIn_of _ (by decide +kernel)) ggX1_add_X1_mustKeepOrder
theorem dX1_add_0 : decode cX1_add 0 = .ok (.aload_n 0, 1) := by decide +kernel
theorem dX1_add_1 : decode cX1_add 1 = .ok (.getfield 41, 3) := by decide +kernel
theorem dX1_add_4 : decode cX1_add 4 = .ok (.istore 7, 2) := by decide +kernel
theorem dX1_add_6 : decode cX1_add 6 = .ok (.aload_n 0, 1) := by decide +kernel
theorem dX1_add_7 : decode cX1_add 7 = .ok (.getfield 9, 3) := by decide +kernel
theorem dX1_add_10 : decode cX1_add 10 = .ok (.iload 7, 2) := by decide +kernel
theorem dX1_add_12 : decode cX1_add 12 = .ok (.iload_n 1, 1) := by decide +kernel
theorem dX1_add_13 : decode cX1_add 13 = .ok (.iastore, 1) := by decide +kernel
theorem dX1_add_14 : decode cX1_add 14 = .ok (.aload_n 0, 1) := by decide +kernel
theorem dX1_add_15 : decode cX1_add 15 = .ok (.getfield 15, 3) := by decide +kernel
theorem dX1_add_18 : decode cX1_add 18 = .ok (.iload 7, 2) := by decide +kernel
theorem dX1_add_20 : decode cX1_add 20 = .ok (.iload_n 2, 1) := by decide +kernel
theorem dX1_add_21 : decode cX1_add 21 = .ok (.bastore, 1) := by decide +kernel
theorem dX1_add_22 : decode cX1_add 22 = .ok (.aload_n 0, 1) := by decide +kernel
theorem dX1_add_23 : decode cX1_add 23 = .ok (.getfield 19, 3) := by decide +kernel
theorem dX1_add_26 : decode cX1_add 26 = .ok (.iload 7, 2) := by decide +kernel
theorem dX1_add_28 : decode cX1_add 28 = .ok (.iload_n 3, 1) := by decide +kernel
theorem dX1_add_29 : decode cX1_add 29 = .ok (.iastore, 1) := by decide +kernel
theorem dX1_add_30 : decode cX1_add 30 = .ok (.aload_n 0, 1) := by decide +kernel
theorem dX1_add_31 : decode cX1_add 31 = .ok (.getfield 22, 3) := by decide +kernel
theorem dX1_add_34 : decode cX1_add 34 = .ok (.iload 7, 2) := by decide +kernel
theorem dX1_add_36 : decode cX1_add 36 = .ok (.iload 4, 2) := by decide +kernel
theorem dX1_add_38 : decode cX1_add 38 = .ok (.iastore, 1) := by decide +kernel
theorem dX1_add_39 : decode cX1_add 39 = .ok (.aload_n 0, 1) := by decide +kernel
theorem dX1_add_40 : decode cX1_add 40 = .ok (.getfield 25, 3) := by decide +kernel
theorem dX1_add_43 : decode cX1_add 43 = .ok (.iload 7, 2) := by decide +kernel
theorem dX1_add_45 : decode cX1_add 45 = .ok (.lload 5, 2) := by decide +kernel
theorem dX1_add_47 : decode cX1_add 47 = .ok (.lastore, 1) := by decide +kernel
theorem dX1_add_48 : decode cX1_add 48 = .ok (.aload_n 0, 1) := by decide +kernel
theorem dX1_add_49 : decode cX1_add 49 = .ok (.getfield 29, 3) := by decide +kernel
theorem dX1_add_52 : decode cX1_add 52 = .ok (.iload 7, 2) := by decide +kernel
theorem dX1_add_54 : decode cX1_add 54 = .ok (.iconst 1, 1) := by decide +kernel
theorem dX1_add_55 : decode cX1_add 55 = .ok (.bastore, 1) := by decide +kernel
theorem dX1_add_56 : decode cX1_add 56 = .ok (.iconst 0, 1) := by decide +kernel
theorem dX1_add_57 : decode cX1_add 57 = .ok (.istore 8, 2) := by decide +kernel
theorem dX1_add_59 : decode cX1_add 59 = .ok (.iload 8, 2) := by decide +kernel
theorem dX1_add_61 : decode cX1_add 61 = .ok (.iload 7, 2) := by decide +kernel
theorem dX1_add_63 : decode cX1_add 63 = .ok (.if_icmp .ge 41, 3) := by decide +kernel
theorem dX1_add_66 : decode cX1_add 66 = .ok (.aload_n 0, 1) := by decide +kernel
theorem dX1_add_67 : decode cX1_add 67 = .ok (.getfield 29, 3) := by decide +kernel
theorem dX1_add_70 : decode cX1_add 70 = .ok (.iload 8, 2) := by decide +kernel
theorem dX1_add_72 : decode cX1_add 72 = .ok (.baload, 1) := by decide +kernel
theorem dX1_add_73 : decode cX1_add 73 = .ok (.ifCond .eq 25, 3) := by decide +kernel
theorem dX1_add_76 : decode cX1_add 76 = .ok (.aload_n 0, 1) := by decide +kernel
theorem dX1_add_77 : decode cX1_add 77 = .ok (.iload 8, 2) := by decide +kernel
theorem dX1_add_79 : decode cX1_add 79 = .ok (.iload 7, 2) := by decide +kernel
theorem dX1_add_81 : decode cX1_add 81 = .ok (.invokevirtual 51, 3) := by decide +kernel
theorem dX1_add_84 : decode cX1_add 84 = .ok (.ifCond .eq 14, 3) := by decide +kernel
theorem dX1_add_87 : decode cX1_add 87 = .ok (.aload_n 0, 1) := by decide +kernel
theorem dX1_add_88 : decode cX1_add 88 = .ok (.getfield 32, 3) := by decide +kernel
theorem dX1_add_91 : decode cX1_add 91 = .ok (.iload 7, 2) := by decide +kernel
theorem dX1_add_93 : decode cX1_add 93 = .ok (.dup2, 1) := by decide +kernel
theorem dX1_add_94 : decode cX1_add 94 = .ok (.iaload, 1) := by decide +kernel
theorem dX1_add_95 : decode cX1_add 95 = .ok (.iconst 1, 1) := by decide +kernel
theorem dX1_add_96 : decode cX1_add 96 = .ok (.iadd, 1) := by decide +kernel
theorem dX1_add_97 : decode cX1_add 97 = .ok (.iastore, 1) := by decide +kernel
theorem dX1_add_98 : decode cX1_add 98 = .ok (.iinc 8 1, 3) := by decide +kernel
theorem dX1_add_101 : decode cX1_add 101 = .ok (.goto (-42), 3) := by decide +kernel
theorem dX1_add_104 : decode cX1_add 104 = .ok (.aload_n 0, 1) := by decide +kernel
theorem dX1_add_105 : decode cX1_add 105 = .ok (.dup, 1) := by decide +kernel
theorem dX1_add_106 : decode cX1_add 106 = .ok (.getfield 41, 3) := by decide +kernel
theorem dX1_add_109 : decode cX1_add 109 = .ok (.iconst 1, 1) := by decide +kernel
theorem dX1_add_110 : decode cX1_add 110 = .ok (.iadd, 1) := by decide +kernel
theorem dX1_add_111 : decode cX1_add 111 = .ok (.putfield 41, 3) := by decide +kernel
theorem dX1_add_114 : decode cX1_add 114 = .ok (.iload 7, 2) := by decide +kernel
theorem dX1_add_116 : decode cX1_add 116 = .ok (.ireturn, 1) := by decide +kernel
set_option maxRecDepth 20000 in
theorem ggX1_markServed_X1_mustKeepOrder : GoodIn wsX1_markServed wsX1_mustKeepOrder := goodIn_r _ [12, 13, 14, 15, 16, 17, 18, 19, 20, 21, 22, 23, 24, 25, 26, 27, 28] (by decide +kernel) (by decide +kernel)
set_option maxRecDepth 20000 in
theorem gX1_markServed_X1_mustKeepOrder : GoodIn wsX1_markServed (wsV RX1 51 RX1 yX1_mustKeepOrder wsX1_mustKeepOrder) := goodIn_app (goodIn_of _ (by decide +kernel)) ggX1_markServed_X1_mustKeepOrder
theorem dX1_markServed_0 : decode cX1_markServed 0 = .ok (.aload_n 0, 1) := by decide +kernel
theorem dX1_markServed_1 : decode cX1_markServed 1 = .ok (.getfield 29, 3) := by decide +kernel
theorem dX1_markServed_4 : decode cX1_markServed 4 = .ok (.iload_n 1, 1) := by decide +kernel
theorem dX1_markServed_5 : decode cX1_markServed 5 = .ok (.iconst 0, 1) := by decide +kernel
theorem dX1_markServed_6 : decode cX1_markServed 6 = .ok (.bastore, 1) := by decide +kernel
theorem dX1_markServed_7 : decode cX1_markServed 7 = .ok (.aload_n 0, 1) := by decide +kernel
theorem dX1_markServed_8 : decode cX1_markServed 8 = .ok (.getfield 35, 3) := by decide +kernel
theorem dX1_markServed_11 : decode cX1_markServed 11 = .ok (.iload_n 1, 1) := by decide +kernel
theorem dX1_markServed_12 : decode cX1_markServed 12 = .ok (.iload_n 2, 1) := by decide +kernel
theorem dX1_markServed_13 : decode cX1_markServed 13 = .ok (.iastore, 1) := by decide +kernel
theorem dX1_markServed_14 : decode cX1_markServed 14 = .ok (.aload_n 0, 1) := by decide +kernel
theorem dX1_markServed_15 : decode cX1_markServed 15 = .ok (.getfield 38, 3) := by decide +kernel
theorem dX1_markServed_18 : decode cX1_markServed 18 = .ok (.aload_n 0, 1) := by decide +kernel
theorem dX1_markServed_19 : decode cX1_markServed 19 = .ok (.getfield 45, 3) := by decide +kernel
theorem dX1_markServed_22 : decode cX1_markServed 22 = .ok (.iload_n 1, 1) := by decide +kernel
theorem dX1_markServed_23 : decode cX1_markServed 23 = .ok (.iastore, 1) := by decide +kernel
theorem dX1_markServed_24 : decode cX1_markServed 24 = .ok (.aload_n 0, 1) := by decide +kernel
theorem dX1_markServed_25 : decode cX1_markServed 25 = .ok (.dup, 1) := by decide +kernel
theorem dX1_markServed_26 : decode cX1_markServed 26 = .ok (.getfield 45, 3) := by decide +kernel
theorem dX1_markServed_29 : decode cX1_markServed 29 = .ok (.iconst 1, 1) := by decide +kernel
theorem dX1_markServed_30 : decode cX1_markServed 30 = .ok (.iadd, 1) := by decide +kernel
theorem dX1_markServed_31 : decode cX1_markServed 31 = .ok (.putfield 45, 3) := by decide +kernel
theorem dX1_markServed_34 : decode cX1_markServed 34 = .ok (.iload_n 2, 1) := by decide +kernel
theorem dX1_markServed_35 : decode cX1_markServed 35 = .ok (.iconst 3, 1) := by decide +kernel
theorem dX1_markServed_36 : decode cX1_markServed 36 = .ok (.if_icmp .ne 13, 3) := by decide +kernel
theorem dX1_markServed_39 : decode cX1_markServed 39 = .ok (.aload_n 0, 1) := by decide +kernel
theorem dX1_markServed_40 : decode cX1_markServed 40 = .ok (.dup, 1) := by decide +kernel
theorem dX1_markServed_41 : decode cX1_markServed 41 = .ok (.getfield 48, 3) := by decide +kernel
theorem dX1_markServed_44 : decode cX1_markServed 44 = .ok (.iconst 1, 1) := by decide +kernel
theorem dX1_markServed_45 : decode cX1_markServed 45 = .ok (.iadd, 1) := by decide +kernel
theorem dX1_markServed_46 : decode cX1_markServed 46 = .ok (.putfield 48, 3) := by decide +kernel
theorem dX1_markServed_49 : decode cX1_markServed 49 = .ok (.iload_n 1, 1) := by decide +kernel
theorem dX1_markServed_50 : decode cX1_markServed 50 = .ok (.iconst 1, 1) := by decide +kernel
theorem dX1_markServed_51 : decode cX1_markServed 51 = .ok (.iadd, 1) := by decide +kernel
theorem dX1_markServed_52 : decode cX1_markServed 52 = .ok (.istore_n 3, 1) := by decide +kernel
theorem dX1_markServed_53 : decode cX1_markServed 53 = .ok (.iload_n 3, 1) := by decide +kernel
theorem dX1_markServed_54 : decode cX1_markServed 54 = .ok (.aload_n 0, 1) := by decide +kernel
theorem dX1_markServed_55 : decode cX1_markServed 55 = .ok (.getfield 41, 3) := by decide +kernel
theorem dX1_markServed_58 : decode cX1_markServed 58 = .ok (.if_icmp .ge 28, 3) := by decide +kernel
theorem dX1_markServed_61 : decode cX1_markServed 61 = .ok (.aload_n 0, 1) := by decide +kernel
theorem dX1_markServed_62 : decode cX1_markServed 62 = .ok (.iload_n 1, 1) := by decide +kernel
theorem dX1_markServed_63 : decode cX1_markServed 63 = .ok (.iload_n 3, 1) := by decide +kernel
theorem dX1_markServed_64 : decode cX1_markServed 64 = .ok (.invokevirtual 51, 3) := by decide +kernel
theorem dX1_markServed_67 : decode cX1_markServed 67 = .ok (.ifCond .eq 13, 3) := by decide +kernel
theorem dX1_markServed_70 : decode cX1_markServed 70 = .ok (.aload_n 0, 1) := by decide +kernel
theorem dX1_markServed_71 : decode cX1_markServed 71 = .ok (.getfield 32, 3) := by decide +kernel
theorem dX1_markServed_74 : decode cX1_markServed 74 = .ok (.iload_n 3, 1) := by decide +kernel
theorem dX1_markServed_75 : decode cX1_markServed 75 = .ok (.dup2, 1) := by decide +kernel
theorem dX1_markServed_76 : decode cX1_markServed 76 = .ok (.iaload, 1) := by decide +kernel
theorem dX1_markServed_77 : decode cX1_markServed 77 = .ok (.iconst 1, 1) := by decide +kernel
theorem dX1_markServed_78 : decode cX1_markServed 78 = .ok (.isub, 1) := by decide +kernel
theorem dX1_markServed_79 : decode cX1_markServed 79 = .ok (.iastore, 1) := by decide +kernel
theorem dX1_markServed_80 : decode cX1_markServed 80 = .ok (.iinc 3 1, 3) := by decide +kernel
theorem dX1_markServed_83 : decode cX1_markServed 83 = .ok (.goto (-30), 3) := by decide +kernel
theorem dX1_markServed_86 : decode cX1_markServed 86 = .ok (.return_, 1) := by decide +kernel
theorem dX1_mustKeepOrder_0 : decode cX1_mustKeepOrder 0 = .ok (.aload_n 0, 1) := by decide +kernel
theorem dX1_mustKeepOrder_1 : decode cX1_mustKeepOrder 1 = .ok (.getfield 9, 3) := by decide +kernel
theorem dX1_mustKeepOrder_4 : decode cX1_mustKeepOrder 4 = .ok (.iload_n 1, 1) := by decide +kernel
theorem dX1_mustKeepOrder_5 : decode cX1_mustKeepOrder 5 = .ok (.iaload, 1) := by decide +kernel
theorem dX1_mustKeepOrder_6 : decode cX1_mustKeepOrder 6 = .ok (.aload_n 0, 1) := by decide +kernel
theorem dX1_mustKeepOrder_7 : decode cX1_mustKeepOrder 7 = .ok (.getfield 9, 3) := by decide +kernel
theorem dX1_mustKeepOrder_10 : decode cX1_mustKeepOrder 10 = .ok (.iload_n 2, 1) := by decide +kernel
theorem dX1_mustKeepOrder_11 : decode cX1_mustKeepOrder 11 = .ok (.iaload, 1) := by decide +kernel
theorem dX1_mustKeepOrder_12 : decode cX1_mustKeepOrder 12 = .ok (.if_icmp .ne 69, 3) := by decide +kernel
theorem dX1_mustKeepOrder_15 : decode cX1_mustKeepOrder 15 = .ok (.aload_n 0, 1) := by decide +kernel
theorem dX1_mustKeepOrder_16 : decode cX1_mustKeepOrder 16 = .ok (.getfield 15, 3) := by decide +kernel
theorem dX1_mustKeepOrder_19 : decode cX1_mustKeepOrder 19 = .ok (.iload_n 1, 1) := by decide +kernel
theorem dX1_mustKeepOrder_20 : decode cX1_mustKeepOrder 20 = .ok (.baload, 1) := by decide +kernel
theorem dX1_mustKeepOrder_21 : decode cX1_mustKeepOrder 21 = .ok (.ifCond .ne 12, 3) := by decide +kernel
theorem dX1_mustKeepOrder_24 : decode cX1_mustKeepOrder 24 = .ok (.aload_n 0, 1) := by decide +kernel
theorem dX1_mustKeepOrder_25 : decode cX1_mustKeepOrder 25 = .ok (.getfield 15, 3) := by decide +kernel
theorem dX1_mustKeepOrder_28 : decode cX1_mustKeepOrder 28 = .ok (.iload_n 2, 1) := by decide +kernel
theorem dX1_mustKeepOrder_29 : decode cX1_mustKeepOrder 29 = .ok (.baload, 1) := by decide +kernel
theorem dX1_mustKeepOrder_30 : decode cX1_mustKeepOrder 30 = .ok (.ifCond .eq 51, 3) := by decide +kernel
theorem dX1_mustKeepOrder_33 : decode cX1_mustKeepOrder 33 = .ok (.aload_n 0, 1) := by decide +kernel
theorem dX1_mustKeepOrder_34 : decode cX1_mustKeepOrder 34 = .ok (.getfield 19, 3) := by decide +kernel
theorem dX1_mustKeepOrder_37 : decode cX1_mustKeepOrder 37 = .ok (.iload_n 1, 1) := by decide +kernel
theorem dX1_mustKeepOrder_38 : decode cX1_mustKeepOrder 38 = .ok (.iaload, 1) := by decide +kernel
theorem dX1_mustKeepOrder_39 : decode cX1_mustKeepOrder 39 = .ok (.aload_n 0, 1) := by decide +kernel
theorem dX1_mustKeepOrder_40 : decode cX1_mustKeepOrder 40 = .ok (.getfield 19, 3) := by decide +kernel
theorem dX1_mustKeepOrder_43 : decode cX1_mustKeepOrder 43 = .ok (.iload_n 2, 1) := by decide +kernel
theorem dX1_mustKeepOrder_44 : decode cX1_mustKeepOrder 44 = .ok (.iaload, 1) := by decide +kernel
theorem dX1_mustKeepOrder_45 : decode cX1_mustKeepOrder 45 = .ok (.aload_n 0, 1) := by decide +kernel
theorem dX1_mustKeepOrder_46 : decode cX1_mustKeepOrder 46 = .ok (.getfield 22, 3) := by decide +kernel
theorem dX1_mustKeepOrder_49 : decode cX1_mustKeepOrder 49 = .ok (.iload_n 2, 1) := by decide +kernel
theorem dX1_mustKeepOrder_50 : decode cX1_mustKeepOrder 50 = .ok (.iaload, 1) := by decide +kernel
theorem dX1_mustKeepOrder_51 : decode cX1_mustKeepOrder 51 = .ok (.iadd, 1) := by decide +kernel
theorem dX1_mustKeepOrder_52 : decode cX1_mustKeepOrder 52 = .ok (.if_icmp .ge 29, 3) := by decide +kernel
theorem dX1_mustKeepOrder_55 : decode cX1_mustKeepOrder 55 = .ok (.aload_n 0, 1) := by decide +kernel
theorem dX1_mustKeepOrder_56 : decode cX1_mustKeepOrder 56 = .ok (.getfield 19, 3) := by decide +kernel
theorem dX1_mustKeepOrder_59 : decode cX1_mustKeepOrder 59 = .ok (.iload_n 2, 1) := by decide +kernel
theorem dX1_mustKeepOrder_60 : decode cX1_mustKeepOrder 60 = .ok (.iaload, 1) := by decide +kernel
theorem dX1_mustKeepOrder_61 : decode cX1_mustKeepOrder 61 = .ok (.aload_n 0, 1) := by decide +kernel
theorem dX1_mustKeepOrder_62 : decode cX1_mustKeepOrder 62 = .ok (.getfield 19, 3) := by decide +kernel
theorem dX1_mustKeepOrder_65 : decode cX1_mustKeepOrder 65 = .ok (.iload_n 1, 1) := by decide +kernel
theorem dX1_mustKeepOrder_66 : decode cX1_mustKeepOrder 66 = .ok (.iaload, 1) := by decide +kernel
theorem dX1_mustKeepOrder_67 : decode cX1_mustKeepOrder 67 = .ok (.aload_n 0, 1) := by decide +kernel
theorem dX1_mustKeepOrder_68 : decode cX1_mustKeepOrder 68 = .ok (.getfield 22, 3) := by decide +kernel
theorem dX1_mustKeepOrder_71 : decode cX1_mustKeepOrder 71 = .ok (.iload_n 1, 1) := by decide +kernel
theorem dX1_mustKeepOrder_72 : decode cX1_mustKeepOrder 72 = .ok (.iaload, 1) := by decide +kernel
theorem dX1_mustKeepOrder_73 : decode cX1_mustKeepOrder 73 = .ok (.iadd, 1) := by decide +kernel
theorem dX1_mustKeepOrder_74 : decode cX1_mustKeepOrder 74 = .ok (.if_icmp .ge 7, 3) := by decide +kernel
theorem dX1_mustKeepOrder_77 : decode cX1_mustKeepOrder 77 = .ok (.iconst 1, 1) := by decide +kernel
theorem dX1_mustKeepOrder_78 : decode cX1_mustKeepOrder 78 = .ok (.goto 4, 3) := by decide +kernel
theorem dX1_mustKeepOrder_81 : decode cX1_mustKeepOrder 81 = .ok (.iconst 0, 1) := by decide +kernel
theorem dX1_mustKeepOrder_82 : decode cX1_mustKeepOrder 82 = .ok (.ireturn, 1) := by decide +kernel
set_option maxRecDepth 20000 in
theorem ggX1_mostUrgent_X1_stateOf : GoodIn wsX1_mostUrgent wsX1_stateOf := goodIn_r _ [7, 8, 9, 10, 11, 12, 13, 14, 15, 16, 17, 18, 19, 20, 21, 22] (by decide +kernel) (by decide +kernel)
set_option maxRecDepth 20000 in
theorem gX1_mostUrgent_X1_stateOf : GoodIn wsX1_mostUrgent (wsV RX1 55 RX1 yX1_stateOf wsX1_stateOf) := goodIn_app (goodIn_of _ (by decide +kernel)) ggX1_mostUrgent_X1_stateOf
theorem dX1_mostUrgent_0 : decode cX1_mostUrgent 0 = .ok (.iconst (-1), 1) := by decide +kernel
theorem dX1_mostUrgent_1 : decode cX1_mostUrgent 1 = .ok (.istore_n 3, 1) := by decide +kernel
theorem dX1_mostUrgent_2 : decode cX1_mostUrgent 2 = .ok (.iconst 0, 1) := by decide +kernel
theorem dX1_mostUrgent_3 : decode cX1_mostUrgent 3 = .ok (.istore 4, 2) := by decide +kernel
theorem dX1_mostUrgent_5 : decode cX1_mostUrgent 5 = .ok (.iload 4, 2) := by decide +kernel
theorem dX1_mostUrgent_7 : decode cX1_mostUrgent 7 = .ok (.aload_n 0, 1) := by decide +kernel
theorem dX1_mostUrgent_8 : decode cX1_mostUrgent 8 = .ok (.getfield 41, 3) := by decide +kernel
theorem dX1_mostUrgent_11 : decode cX1_mostUrgent 11 = .ok (.if_icmp .ge 56, 3) := by decide +kernel
theorem dX1_mostUrgent_14 : decode cX1_mostUrgent 14 = .ok (.aload_n 0, 1) := by decide +kernel
theorem dX1_mostUrgent_15 : decode cX1_mostUrgent 15 = .ok (.iload 4, 2) := by decide +kernel
theorem dX1_mostUrgent_17 : decode cX1_mostUrgent 17 = .ok (.invokevirtual 55, 3) := by decide +kernel
theorem dX1_mostUrgent_20 : decode cX1_mostUrgent 20 = .ok (.iconst 1, 1) := by decide +kernel
theorem dX1_mostUrgent_21 : decode cX1_mostUrgent 21 = .ok (.if_icmp .ne 40, 3) := by decide +kernel
theorem dX1_mostUrgent_24 : decode cX1_mostUrgent 24 = .ok (.aload_n 0, 1) := by decide +kernel
theorem dX1_mostUrgent_25 : decode cX1_mostUrgent 25 = .ok (.getfield 25, 3) := by decide +kernel
theorem dX1_mostUrgent_28 : decode cX1_mostUrgent 28 = .ok (.iload 4, 2) := by decide +kernel
theorem dX1_mostUrgent_30 : decode cX1_mostUrgent 30 = .ok (.laload, 1) := by decide +kernel
theorem dX1_mostUrgent_31 : decode cX1_mostUrgent 31 = .ok (.lload_n 1, 1) := by decide +kernel
theorem dX1_mostUrgent_32 : decode cX1_mostUrgent 32 = .ok (.lcmp, 1) := by decide +kernel
theorem dX1_mostUrgent_33 : decode cX1_mostUrgent 33 = .ok (.ifCond .gt 28, 3) := by decide +kernel
theorem dX1_mostUrgent_36 : decode cX1_mostUrgent 36 = .ok (.iload_n 3, 1) := by decide +kernel
theorem dX1_mostUrgent_37 : decode cX1_mostUrgent 37 = .ok (.iconst (-1), 1) := by decide +kernel
theorem dX1_mostUrgent_38 : decode cX1_mostUrgent 38 = .ok (.if_icmp .eq 20, 3) := by decide +kernel
theorem dX1_mostUrgent_41 : decode cX1_mostUrgent 41 = .ok (.aload_n 0, 1) := by decide +kernel
theorem dX1_mostUrgent_42 : decode cX1_mostUrgent 42 = .ok (.getfield 25, 3) := by decide +kernel
theorem dX1_mostUrgent_45 : decode cX1_mostUrgent 45 = .ok (.iload 4, 2) := by decide +kernel
theorem dX1_mostUrgent_47 : decode cX1_mostUrgent 47 = .ok (.laload, 1) := by decide +kernel
theorem dX1_mostUrgent_48 : decode cX1_mostUrgent 48 = .ok (.aload_n 0, 1) := by decide +kernel
theorem dX1_mostUrgent_49 : decode cX1_mostUrgent 49 = .ok (.getfield 25, 3) := by decide +kernel
theorem dX1_mostUrgent_52 : decode cX1_mostUrgent 52 = .ok (.iload_n 3, 1) := by decide +kernel
theorem dX1_mostUrgent_53 : decode cX1_mostUrgent 53 = .ok (.laload, 1) := by decide +kernel
theorem dX1_mostUrgent_54 : decode cX1_mostUrgent 54 = .ok (.lcmp, 1) := by decide +kernel
theorem dX1_mostUrgent_55 : decode cX1_mostUrgent 55 = .ok (.ifCond .ge 6, 3) := by decide +kernel
theorem dX1_mostUrgent_58 : decode cX1_mostUrgent 58 = .ok (.iload 4, 2) := by decide +kernel
theorem dX1_mostUrgent_60 : decode cX1_mostUrgent 60 = .ok (.istore_n 3, 1) := by decide +kernel
theorem dX1_mostUrgent_61 : decode cX1_mostUrgent 61 = .ok (.iinc 4 1, 3) := by decide +kernel
theorem dX1_mostUrgent_64 : decode cX1_mostUrgent 64 = .ok (.goto (-59), 3) := by decide +kernel
theorem dX1_mostUrgent_67 : decode cX1_mostUrgent 67 = .ok (.iload_n 3, 1) := by decide +kernel
theorem dX1_mostUrgent_68 : decode cX1_mostUrgent 68 = .ok (.ireturn, 1) := by decide +kernel
set_option maxRecDepth 20000 in
theorem ggX1_nextAlong_X1_stateOf : GoodIn wsX1_nextAlong wsX1_stateOf := goodIn_r _ [7, 8, 9, 10, 17, 18, 19, 20, 21, 22, 23, 24, 25, 26, 27, 28] (by decide +kernel) (by decide +kernel)
set_option maxRecDepth 20000 in
theorem gX1_nextAlong_X1_stateOf : GoodIn wsX1_nextAlong (wsV RX1 55 RX1 yX1_stateOf wsX1_stateOf) := goodIn_app (goodIn_of _ (by decide +kernel)) ggX1_nextAlong_X1_stateOf
set_option maxRecDepth 20000 in
theorem ggX1_nextAlong_X1_turnOf : GoodIn wsX1_nextAlong wsX1_turnOf := goodIn_r _ [14, 15, 16, 17, 18, 19, 20, 21, 22, 23, 24, 25, 26, 27, 28] (by decide +kernel) (by decide +kernel)
set_option maxRecDepth 20000 in
theorem gX1_nextAlong_X1_turnOf : GoodIn wsX1_nextAlong (wsV RX1 59 RX1 yX1_turnOf wsX1_turnOf) := goodIn_app (goodIn_of _ (by decide +kernel)) ggX1_nextAlong_X1_turnOf
theorem dX1_nextAlong_0 : decode cX1_nextAlong 0 = .ok (.iconst (-1), 1) := by decide +kernel
theorem dX1_nextAlong_1 : decode cX1_nextAlong 1 = .ok (.istore_n 3, 1) := by decide +kernel
theorem dX1_nextAlong_2 : decode cX1_nextAlong 2 = .ok (.iconst 0, 1) := by decide +kernel
theorem dX1_nextAlong_3 : decode cX1_nextAlong 3 = .ok (.istore 4, 2) := by decide +kernel
theorem dX1_nextAlong_5 : decode cX1_nextAlong 5 = .ok (.iload 4, 2) := by decide +kernel
theorem dX1_nextAlong_7 : decode cX1_nextAlong 7 = .ok (.aload_n 0, 1) := by decide +kernel
theorem dX1_nextAlong_8 : decode cX1_nextAlong 8 = .ok (.getfield 41, 3) := by decide +kernel
theorem dX1_nextAlong_11 : decode cX1_nextAlong 11 = .ok (.if_icmp .ge 54, 3) := by decide +kernel
theorem dX1_nextAlong_14 : decode cX1_nextAlong 14 = .ok (.aload_n 0, 1) := by decide +kernel
theorem dX1_nextAlong_15 : decode cX1_nextAlong 15 = .ok (.iload 4, 2) := by decide +kernel
theorem dX1_nextAlong_17 : decode cX1_nextAlong 17 = .ok (.invokevirtual 55, 3) := by decide +kernel
theorem dX1_nextAlong_20 : decode cX1_nextAlong 20 = .ok (.iconst 1, 1) := by decide +kernel
theorem dX1_nextAlong_21 : decode cX1_nextAlong 21 = .ok (.if_icmp .ne 38, 3) := by decide +kernel
theorem dX1_nextAlong_24 : decode cX1_nextAlong 24 = .ok (.aload_n 0, 1) := by decide +kernel
theorem dX1_nextAlong_25 : decode cX1_nextAlong 25 = .ok (.getfield 9, 3) := by decide +kernel
theorem dX1_nextAlong_28 : decode cX1_nextAlong 28 = .ok (.iload 4, 2) := by decide +kernel
theorem dX1_nextAlong_30 : decode cX1_nextAlong 30 = .ok (.iaload, 1) := by decide +kernel
theorem dX1_nextAlong_31 : decode cX1_nextAlong 31 = .ok (.iload_n 1, 1) := by decide +kernel
theorem dX1_nextAlong_32 : decode cX1_nextAlong 32 = .ok (.if_icmp .ne 27, 3) := by decide +kernel
theorem dX1_nextAlong_35 : decode cX1_nextAlong 35 = .ok (.iload_n 3, 1) := by decide +kernel
theorem dX1_nextAlong_36 : decode cX1_nextAlong 36 = .ok (.iconst (-1), 1) := by decide +kernel
theorem dX1_nextAlong_37 : decode cX1_nextAlong 37 = .ok (.if_icmp .eq 19, 3) := by decide +kernel
theorem dX1_nextAlong_40 : decode cX1_nextAlong 40 = .ok (.aload_n 0, 1) := by decide +kernel
theorem dX1_nextAlong_41 : decode cX1_nextAlong 41 = .ok (.iload 4, 2) := by decide +kernel
theorem dX1_nextAlong_43 : decode cX1_nextAlong 43 = .ok (.iload_n 2, 1) := by decide +kernel
theorem dX1_nextAlong_44 : decode cX1_nextAlong 44 = .ok (.invokevirtual 59, 3) := by decide +kernel
theorem dX1_nextAlong_47 : decode cX1_nextAlong 47 = .ok (.aload_n 0, 1) := by decide +kernel
theorem dX1_nextAlong_48 : decode cX1_nextAlong 48 = .ok (.iload_n 3, 1) := by decide +kernel
theorem dX1_nextAlong_49 : decode cX1_nextAlong 49 = .ok (.iload_n 2, 1) := by decide +kernel
theorem dX1_nextAlong_50 : decode cX1_nextAlong 50 = .ok (.invokevirtual 59, 3) := by decide +kernel
theorem dX1_nextAlong_53 : decode cX1_nextAlong 53 = .ok (.if_icmp .ge 6, 3) := by decide +kernel
theorem dX1_nextAlong_56 : decode cX1_nextAlong 56 = .ok (.iload 4, 2) := by decide +kernel
theorem dX1_nextAlong_58 : decode cX1_nextAlong 58 = .ok (.istore_n 3, 1) := by decide +kernel
theorem dX1_nextAlong_59 : decode cX1_nextAlong 59 = .ok (.iinc 4 1, 3) := by decide +kernel
theorem dX1_nextAlong_62 : decode cX1_nextAlong 62 = .ok (.goto (-57), 3) := by decide +kernel
theorem dX1_nextAlong_65 : decode cX1_nextAlong 65 = .ok (.iload_n 3, 1) := by decide +kernel
theorem dX1_nextAlong_66 : decode cX1_nextAlong 66 = .ok (.ireturn, 1) := by decide +kernel
theorem dX1_turnOf_0 : decode cX1_turnOf 0 = .ok (.aload_n 0, 1) := by decide +kernel
theorem dX1_turnOf_1 : decode cX1_turnOf 1 = .ok (.getfield 19, 3) := by decide +kernel
theorem dX1_turnOf_4 : decode cX1_turnOf 4 = .ok (.iload_n 1, 1) := by decide +kernel
theorem dX1_turnOf_5 : decode cX1_turnOf 5 = .ok (.iaload, 1) := by decide +kernel
theorem dX1_turnOf_6 : decode cX1_turnOf 6 = .ok (.iload_n 2, 1) := by decide +kernel
theorem dX1_turnOf_7 : decode cX1_turnOf 7 = .ok (.if_icmp .lt 12, 3) := by decide +kernel
theorem dX1_turnOf_10 : decode cX1_turnOf 10 = .ok (.aload_n 0, 1) := by decide +kernel
theorem dX1_turnOf_11 : decode cX1_turnOf 11 = .ok (.getfield 19, 3) := by decide +kernel
theorem dX1_turnOf_14 : decode cX1_turnOf 14 = .ok (.iload_n 1, 1) := by decide +kernel
theorem dX1_turnOf_15 : decode cX1_turnOf 15 = .ok (.iaload, 1) := by decide +kernel
theorem dX1_turnOf_16 : decode cX1_turnOf 16 = .ok (.goto 12, 3) := by decide +kernel
theorem dX1_turnOf_19 : decode cX1_turnOf 19 = .ok (.aload_n 0, 1) := by decide +kernel
theorem dX1_turnOf_20 : decode cX1_turnOf 20 = .ok (.getfield 19, 3) := by decide +kernel
theorem dX1_turnOf_23 : decode cX1_turnOf 23 = .ok (.iload_n 1, 1) := by decide +kernel
theorem dX1_turnOf_24 : decode cX1_turnOf 24 = .ok (.iaload, 1) := by decide +kernel
theorem dX1_turnOf_25 : decode cX1_turnOf 25 = .ok (.ldc 63, 2) := by decide +kernel
theorem dX1_turnOf_27 : decode cX1_turnOf 27 = .ok (.iadd, 1) := by decide +kernel
theorem dX1_turnOf_28 : decode cX1_turnOf 28 = .ok (.ireturn, 1) := by decide +kernel
set_option maxRecDepth 20000 in
theorem ggX2_init_X0_init : GoodIn wsX2_init wsX0_init := goodIn_r _ [14, 15, 2, 3, 16, 17, 18, 19, 20, 21, 22, 23, 24, 25, 26, 39, 40, 41, 42, 43, 44, 45] (by decide +kernel) (by decide +kernel)
set_option maxRecDepth 20000 in
theorem gX2_init_X0_init_n9 : GoodIn wsX2_init (wsX0_init) := ggX2_init_X0_init
set_option maxRecDepth 20000 in
theorem ggX2_init_X1_init : GoodIn wsX2_init wsX1_init := goodIn_r _ [28, 29, 2, 3, 18, 30, 16, 31, 32, 33, 21, 34, 35, 36, 37, 38, 54, 55, 56, 57, 58, 59, 60, 61, 62, 63, 64, 65] (by decide +kernel) (by decide +kernel)
set_option maxRecDepth 20000 in
theorem gX2_init_X1_init_n18 : GoodIn wsX2_init (wsX1_init) := ggX2_init_X1_init
theorem dX2_init_0 : decode cX2_init 0 = .ok (.aload_n 0, 1) := by decide +kernel
theorem dX2_init_1 : decode cX2_init 1 = .ok (.invokespecial 1, 3) := by decide +kernel
theorem dX2_init_4 : decode cX2_init 4 = .ok (.aload_n 0, 1) := by decide +kernel
theorem dX2_init_5 : decode cX2_init 5 = .ok (.new 7, 3) := by decide +kernel
theorem dX2_init_8 : decode cX2_init 8 = .ok (.dup, 1) := by decide +kernel
theorem dX2_init_9 : decode cX2_init 9 = .ok (.invokespecial 9, 3) := by decide +kernel
theorem dX2_init_12 : decode cX2_init 12 = .ok (.putfield 10, 3) := by decide +kernel
theorem dX2_init_15 : decode cX2_init 15 = .ok (.aload_n 0, 1) := by decide +kernel
theorem dX2_init_16 : decode cX2_init 16 = .ok (.new 16, 3) := by decide +kernel
theorem dX2_init_19 : decode cX2_init 19 = .ok (.dup, 1) := by decide +kernel
theorem dX2_init_20 : decode cX2_init 20 = .ok (.invokespecial 18, 3) := by decide +kernel
theorem dX2_init_23 : decode cX2_init 23 = .ok (.putfield 19, 3) := by decide +kernel
theorem dX2_init_26 : decode cX2_init 26 = .ok (.aload_n 0, 1) := by decide +kernel
theorem dX2_init_27 : decode cX2_init 27 = .ok (.iconst (-1), 1) := by decide +kernel
theorem dX2_init_28 : decode cX2_init 28 = .ok (.putfield 23, 3) := by decide +kernel
theorem dX2_init_31 : decode cX2_init 31 = .ok (.return_, 1) := by decide +kernel
set_option maxRecDepth 20000 in
theorem ggX2_client_X2_isWithin : GoodIn wsX2_client wsX2_isWithin := goodIn_r _ [8] (by decide +kernel) (by decide +kernel)
set_option maxRecDepth 20000 in
theorem gX2_client_X2_isWithin : GoodIn wsX2_client (va_wsS RX2 27 yX2_isWithin wsX2_isWithin) := goodIn_app (goodIn_of _ (by decide +kernel)) ggX2_client_X2_isWithin
set_option maxRecDepth 20000 in
theorem ggX2_client_X0_isThere : GoodIn wsX2_client wsX0_isThere := goodIn_r _ [13, 14, 34, 35, 36, 37, 38, 39, 40] (by decide +kernel) (by decide +kernel)
set_option maxRecDepth 20000 in
theorem gX2_client_X0_isThere : GoodIn wsX2_client (wsV RX2 34 RX0 yX0_isThere wsX0_isThere) := goodIn_app (goodIn_of _ (by decide +kernel)) ggX2_client_X0_isThere
set_option maxRecDepth 20000 in
theorem ggX2_client_X0_enter : GoodIn wsX2_client wsX0_enter := goodIn_r _ [18, 14, 19, 34, 35, 36, 37, 38, 39, 40] (by decide +kernel) (by decide +kernel)
set_option maxRecDepth 20000 in
theorem gX2_client_X0_enter : GoodIn wsX2_client (wsV RX2 42 RX0 yX0_enter wsX0_enter) := goodIn_app (goodIn_of _ (by decide +kernel)) ggX2_client_X0_enter
set_option maxRecDepth 20000 in
theorem ggX2_client_X0_setShare : GoodIn wsX2_client wsX0_setShare := goodIn_r _ [23, 24, 25, 34, 35, 36, 37, 38, 39, 40] (by decide +kernel) (by decide +kernel)
set_option maxRecDepth 20000 in
theorem gX2_client_X0_setShare : GoodIn wsX2_client (wsV RX2 46 RX0 yX0_setShare wsX0_setShare) := goodIn_app (goodIn_of _ (by decide +kernel)) ggX2_client_X0_setShare
theorem dX2_client_0 : decode cX2_client 0 = .ok (.iload_n 1, 1) := by decide +kernel
theorem dX2_client_1 : decode cX2_client 1 = .ok (.iconst 0, 1) := by decide +kernel
theorem dX2_client_2 : decode cX2_client 2 = .ok (.bipush 7, 2) := by decide +kernel
theorem dX2_client_4 : decode cX2_client 4 = .ok (.invokestatic 27, 3) := by decide +kernel
theorem dX2_client_7 : decode cX2_client 7 = .ok (.ifCond .eq 24, 3) := by decide +kernel
theorem dX2_client_10 : decode cX2_client 10 = .ok (.iload_n 2, 1) := by decide +kernel
theorem dX2_client_11 : decode cX2_client 11 = .ok (.iconst 1, 1) := by decide +kernel
theorem dX2_client_12 : decode cX2_client 12 = .ok (.bipush 12, 2) := by decide +kernel
theorem dX2_client_14 : decode cX2_client 14 = .ok (.invokestatic 27, 3) := by decide +kernel
theorem dX2_client_17 : decode cX2_client 17 = .ok (.ifCond .eq 14, 3) := by decide +kernel
theorem dX2_client_20 : decode cX2_client 20 = .ok (.iload_n 3, 1) := by decide +kernel
theorem dX2_client_21 : decode cX2_client 21 = .ok (.iconst 1, 1) := by decide +kernel
theorem dX2_client_22 : decode cX2_client 22 = .ok (.sipush 1000, 3) := by decide +kernel
theorem dX2_client_25 : decode cX2_client 25 = .ok (.invokestatic 27, 3) := by decide +kernel
theorem dX2_client_28 : decode cX2_client 28 = .ok (.ifCond .ne 11, 3) := by decide +kernel
theorem dX2_client_31 : decode cX2_client 31 = .ok (.new 31, 3) := by decide +kernel
theorem dX2_client_34 : decode cX2_client 34 = .ok (.dup, 1) := by decide +kernel
theorem dX2_client_35 : decode cX2_client 35 = .ok (.invokespecial 33, 3) := by decide +kernel
theorem dX2_client_38 : decode cX2_client 38 = .ok (.athrow, 1) := by decide +kernel
theorem dX2_client_39 : decode cX2_client 39 = .ok (.aload_n 0, 1) := by decide +kernel
theorem dX2_client_40 : decode cX2_client 40 = .ok (.getfield 10, 3) := by decide +kernel
theorem dX2_client_43 : decode cX2_client 43 = .ok (.iload_n 1, 1) := by decide +kernel
theorem dX2_client_44 : decode cX2_client 44 = .ok (.invokevirtual 34, 3) := by decide +kernel
theorem dX2_client_47 : decode cX2_client 47 = .ok (.ifCond .ne 15, 3) := by decide +kernel
theorem dX2_client_50 : decode cX2_client 50 = .ok (.aload_n 0, 1) := by decide +kernel
theorem dX2_client_51 : decode cX2_client 51 = .ok (.getfield 10, 3) := by decide +kernel
theorem dX2_client_54 : decode cX2_client 54 = .ok (.iload_n 1, 1) := by decide +kernel
theorem dX2_client_55 : decode cX2_client 55 = .ok (.aload_n 0, 1) := by decide +kernel
theorem dX2_client_56 : decode cX2_client 56 = .ok (.getfield 38, 3) := by decide +kernel
theorem dX2_client_59 : decode cX2_client 59 = .ok (.invokevirtual 42, 3) := by decide +kernel
theorem dX2_client_62 : decode cX2_client 62 = .ok (.aload_n 0, 1) := by decide +kernel
theorem dX2_client_63 : decode cX2_client 63 = .ok (.getfield 10, 3) := by decide +kernel
theorem dX2_client_66 : decode cX2_client 66 = .ok (.iload_n 1, 1) := by decide +kernel
theorem dX2_client_67 : decode cX2_client 67 = .ok (.sipush 27720, 3) := by decide +kernel
theorem dX2_client_70 : decode cX2_client 70 = .ok (.iload_n 2, 1) := by decide +kernel
theorem dX2_client_71 : decode cX2_client 71 = .ok (.idiv, 1) := by decide +kernel
theorem dX2_client_72 : decode cX2_client 72 = .ok (.iload_n 3, 1) := by decide +kernel
theorem dX2_client_73 : decode cX2_client 73 = .ok (.invokevirtual 46, 3) := by decide +kernel
theorem dX2_client_76 : decode cX2_client 76 = .ok (.return_, 1) := by decide +kernel
set_option maxRecDepth 20000 in
theorem ggX2_gone_X2_requireThere : GoodIn wsX2_gone wsX2_requireThere := goodIn_ca (goodIn_r _ [9, 10, 11, 3, 12, 13, 8, 14, 15, 16, 17, 18, 19, 20, 36, 37, 38, 39, 40, 41, 42, 43, 44, 45, 46, 47, 48, 49, 50] (by decide +kernel) (by decide +kernel)) (goodIn_sub (fun _ h => List.mem_cons_of_mem _ (List.mem_append_right _ h)) (by decide +kernel))
set_option maxRecDepth 20000 in
theorem gX2_gone_X2_requireThere : GoodIn wsX2_gone (wsV RX2 50 RX2 yX2_requireThere wsX2_requireThere) := goodIn_app (goodIn_of _ (by decide +kernel)) ggX2_gone_X2_requireThere
set_option maxRecDepth 20000 in
theorem ggX2_gone_X0_waitingOf : GoodIn wsX2_gone wsX0_waitingOf := goodIn_r _ [24, 25, 44, 45, 46, 47, 48, 49, 50] (by decide +kernel) (by decide +kernel)
set_option maxRecDepth 20000 in
theorem gX2_gone_X0_waitingOf : GoodIn wsX2_gone (wsV RX2 54 RX0 yX0_waitingOf wsX0_waitingOf) := goodIn_app (goodIn_of _ (by decide +kernel)) ggX2_gone_X0_waitingOf
set_option maxRecDepth 20000 in
theorem ggX2_gone_X0_leave : GoodIn wsX2_gone wsX0_leave := goodIn_r _ [29, 20, 30, 44, 45, 46, 47, 48, 49, 50] (by decide +kernel) (by decide +kernel)
set_option maxRecDepth 20000 in
theorem gX2_gone_X0_leave : GoodIn wsX2_gone (wsV RX2 61 RX0 yX0_leave wsX0_leave) := goodIn_app (goodIn_of _ (by decide +kernel)) ggX2_gone_X0_leave
set_option maxRecDepth 20000 in
theorem ggX2_gone_X2_endSlice : GoodIn wsX2_gone wsX2_endSlice := goodIn_r _ [34, 4, 35, 36, 37, 38, 39, 40, 41, 42, 43] (by decide +kernel) (by decide +kernel)
set_option maxRecDepth 20000 in
theorem gX2_gone_X2_endSlice : GoodIn wsX2_gone (wsV RX2 64 RX2 yX2_endSlice wsX2_endSlice) := goodIn_app (goodIn_of _ (by decide +kernel)) ggX2_gone_X2_endSlice
theorem dX2_gone_0 : decode cX2_gone 0 = .ok (.aload_n 0, 1) := by decide +kernel
theorem dX2_gone_1 : decode cX2_gone 1 = .ok (.iload_n 1, 1) := by decide +kernel
theorem dX2_gone_2 : decode cX2_gone 2 = .ok (.invokevirtual 50, 3) := by decide +kernel
theorem dX2_gone_5 : decode cX2_gone 5 = .ok (.aload_n 0, 1) := by decide +kernel
theorem dX2_gone_6 : decode cX2_gone 6 = .ok (.getfield 10, 3) := by decide +kernel
theorem dX2_gone_9 : decode cX2_gone 9 = .ok (.iload_n 1, 1) := by decide +kernel
theorem dX2_gone_10 : decode cX2_gone 10 = .ok (.invokevirtual 54, 3) := by decide +kernel
theorem dX2_gone_13 : decode cX2_gone 13 = .ok (.ifCond .le 11, 3) := by decide +kernel
theorem dX2_gone_16 : decode cX2_gone 16 = .ok (.new 58, 3) := by decide +kernel
theorem dX2_gone_19 : decode cX2_gone 19 = .ok (.dup, 1) := by decide +kernel
theorem dX2_gone_20 : decode cX2_gone 20 = .ok (.invokespecial 60, 3) := by decide +kernel
theorem dX2_gone_23 : decode cX2_gone 23 = .ok (.athrow, 1) := by decide +kernel
theorem dX2_gone_24 : decode cX2_gone 24 = .ok (.aload_n 0, 1) := by decide +kernel
theorem dX2_gone_25 : decode cX2_gone 25 = .ok (.getfield 10, 3) := by decide +kernel
theorem dX2_gone_28 : decode cX2_gone 28 = .ok (.iload_n 1, 1) := by decide +kernel
theorem dX2_gone_29 : decode cX2_gone 29 = .ok (.invokevirtual 61, 3) := by decide +kernel
theorem dX2_gone_32 : decode cX2_gone 32 = .ok (.aload_n 0, 1) := by decide +kernel
theorem dX2_gone_33 : decode cX2_gone 33 = .ok (.getfield 23, 3) := by decide +kernel
theorem dX2_gone_36 : decode cX2_gone 36 = .ok (.iload_n 1, 1) := by decide +kernel
theorem dX2_gone_37 : decode cX2_gone 37 = .ok (.if_icmp .ne 7, 3) := by decide +kernel
theorem dX2_gone_40 : decode cX2_gone 40 = .ok (.aload_n 0, 1) := by decide +kernel
theorem dX2_gone_41 : decode cX2_gone 41 = .ok (.invokevirtual 64, 3) := by decide +kernel
theorem dX2_gone_44 : decode cX2_gone 44 = .ok (.return_, 1) := by decide +kernel
set_option maxRecDepth 20000 in
theorem ggX2_submit_X2_requireThere : GoodIn wsX2_submit wsX2_requireThere := goodIn_ca (goodIn_r _ [12, 1, 2, 4, 13, 14, 11, 15, 16, 17, 18, 19, 20, 21, 66, 67, 68, 69, 70, 71, 72, 73, 74, 75, 76, 77, 78, 79, 80] (by decide +kernel) (by decide +kernel)) (goodIn_sub (fun _ h => List.mem_cons_of_mem _ (List.mem_append_right _ h)) (by decide +kernel))
set_option maxRecDepth 20000 in
theorem gX2_submit_X2_requireThere : GoodIn wsX2_submit (wsV RX2 50 RX2 yX2_requireThere wsX2_requireThere) := goodIn_app (goodIn_of _ (by decide +kernel)) ggX2_submit_X2_requireThere
set_option maxRecDepth 20000 in
theorem ggX2_submit_X2_areOnDisk : GoodIn wsX2_submit wsX2_areOnDisk := goodIn_r _ [24, 25, 13, 14, 11, 15] (by decide +kernel) (by decide +kernel)
set_option maxRecDepth 20000 in
theorem gX2_submit_X2_areOnDisk : GoodIn wsX2_submit (va_wsS RX2 67 yX2_areOnDisk wsX2_areOnDisk) := goodIn_app (goodIn_of _ (by decide +kernel)) ggX2_submit_X2_areOnDisk
set_option maxRecDepth 20000 in
theorem ggX2_submit_X2_isWithin : GoodIn wsX2_submit wsX2_isWithin := goodIn_r _ [15] (by decide +kernel) (by decide +kernel)
set_option maxRecDepth 20000 in
theorem gX2_submit_X2_isWithin : GoodIn wsX2_submit (va_wsS RX2 27 yX2_isWithin wsX2_isWithin) := goodIn_app (goodIn_of _ (by decide +kernel)) ggX2_submit_X2_isWithin
set_option maxRecDepth 20000 in
theorem ggX2_submit_X0_waitingOf : GoodIn wsX2_submit wsX0_waitingOf := goodIn_r _ [29, 30, 74, 75, 76, 77, 78, 79, 80] (by decide +kernel) (by decide +kernel)
set_option maxRecDepth 20000 in
theorem gX2_submit_X0_waitingOf : GoodIn wsX2_submit (wsV RX2 54 RX0 yX0_waitingOf wsX0_waitingOf) := goodIn_app (goodIn_of _ (by decide +kernel)) ggX2_submit_X0_waitingOf
set_option maxRecDepth 20000 in
theorem ggX2_submit_X1_isFull : GoodIn wsX2_submit wsX1_isFull := goodIn_r _ [35, 36, 81, 82, 83, 84, 85, 86, 87, 88, 89, 90, 91, 92] (by decide +kernel) (by decide +kernel)
set_option maxRecDepth 20000 in
theorem gX2_submit_X1_isFull : GoodIn wsX2_submit (wsV RX2 72 RX1 yX1_isFull wsX1_isFull) := goodIn_app (goodIn_of _ (by decide +kernel)) ggX2_submit_X1_isFull
set_option maxRecDepth 20000 in
theorem ggX2_submit_X0_noteRequest : GoodIn wsX2_submit wsX0_noteRequest := goodIn_r _ [40, 30, 41, 42, 43, 44, 45, 46, 47, 48, 19, 49, 50, 74, 75, 76, 77, 78, 79, 80] (by decide +kernel) (by decide +kernel)
set_option maxRecDepth 20000 in
theorem gX2_submit_X0_noteRequest : GoodIn wsX2_submit (wsV RX2 76 RX0 yX0_noteRequest wsX0_noteRequest) := goodIn_app (goodIn_of _ (by decide +kernel)) ggX2_submit_X0_noteRequest
set_option maxRecDepth 20000 in
theorem ggX2_submit_X1_add : GoodIn wsX2_submit wsX1_add := goodIn_r _ [54, 36, 55, 56, 57, 58, 59, 60, 61, 62, 63, 64, 34, 65, 81, 82, 83, 84, 85, 86, 87, 88, 89, 90, 91, 92] (by decide +kernel) (by decide +kernel)
set_option maxRecDepth 20000 in
theorem gX2_submit_X1_add : GoodIn wsX2_submit (wsV RX2 82 RX1 yX1_add wsX1_add) := goodIn_app (goodIn_of _ (by decide +kernel)) ggX2_submit_X1_add
theorem dX2_submit_0 : decode cX2_submit 0 = .ok (.aload_n 0, 1) := by decide +kernel
theorem dX2_submit_1 : decode cX2_submit 1 = .ok (.iload_n 1, 1) := by decide +kernel
theorem dX2_submit_2 : decode cX2_submit 2 = .ok (.invokevirtual 50, 3) := by decide +kernel
theorem dX2_submit_5 : decode cX2_submit 5 = .ok (.iload_n 3, 1) := by decide +kernel
theorem dX2_submit_6 : decode cX2_submit 6 = .ok (.iload 4, 2) := by decide +kernel
theorem dX2_submit_8 : decode cX2_submit 8 = .ok (.invokestatic 67, 3) := by decide +kernel
theorem dX2_submit_11 : decode cX2_submit 11 = .ok (.ifCond .eq 14, 3) := by decide +kernel
theorem dX2_submit_14 : decode cX2_submit 14 = .ok (.iload 5, 2) := by decide +kernel
theorem dX2_submit_16 : decode cX2_submit 16 = .ok (.iconst 0, 1) := by decide +kernel
theorem dX2_submit_17 : decode cX2_submit 17 = .ok (.ldc 71, 2) := by decide +kernel
theorem dX2_submit_19 : decode cX2_submit 19 = .ok (.invokestatic 27, 3) := by decide +kernel
theorem dX2_submit_22 : decode cX2_submit 22 = .ok (.ifCond .ne 11, 3) := by decide +kernel
theorem dX2_submit_25 : decode cX2_submit 25 = .ok (.new 31, 3) := by decide +kernel
theorem dX2_submit_28 : decode cX2_submit 28 = .ok (.dup, 1) := by decide +kernel
theorem dX2_submit_29 : decode cX2_submit 29 = .ok (.invokespecial 33, 3) := by decide +kernel
theorem dX2_submit_32 : decode cX2_submit 32 = .ok (.athrow, 1) := by decide +kernel
theorem dX2_submit_33 : decode cX2_submit 33 = .ok (.aload_n 0, 1) := by decide +kernel
theorem dX2_submit_34 : decode cX2_submit 34 = .ok (.getfield 10, 3) := by decide +kernel
theorem dX2_submit_37 : decode cX2_submit 37 = .ok (.iload_n 1, 1) := by decide +kernel
theorem dX2_submit_38 : decode cX2_submit 38 = .ok (.invokevirtual 54, 3) := by decide +kernel
theorem dX2_submit_41 : decode cX2_submit 41 = .ok (.bipush 64, 2) := by decide +kernel
theorem dX2_submit_43 : decode cX2_submit 43 = .ok (.if_icmp .ge 13, 3) := by decide +kernel
theorem dX2_submit_46 : decode cX2_submit 46 = .ok (.aload_n 0, 1) := by decide +kernel
theorem dX2_submit_47 : decode cX2_submit 47 = .ok (.getfield 19, 3) := by decide +kernel
theorem dX2_submit_50 : decode cX2_submit 50 = .ok (.invokevirtual 72, 3) := by decide +kernel
theorem dX2_submit_53 : decode cX2_submit 53 = .ok (.ifCond .eq 5, 3) := by decide +kernel
theorem dX2_submit_56 : decode cX2_submit 56 = .ok (.iconst (-1), 1) := by decide +kernel
theorem dX2_submit_57 : decode cX2_submit 57 = .ok (.ireturn, 1) := by decide +kernel
theorem dX2_submit_58 : decode cX2_submit 58 = .ok (.aload_n 0, 1) := by decide +kernel
theorem dX2_submit_59 : decode cX2_submit 59 = .ok (.getfield 10, 3) := by decide +kernel
theorem dX2_submit_62 : decode cX2_submit 62 = .ok (.iload_n 1, 1) := by decide +kernel
theorem dX2_submit_63 : decode cX2_submit 63 = .ok (.aload_n 0, 1) := by decide +kernel
theorem dX2_submit_64 : decode cX2_submit 64 = .ok (.getfield 38, 3) := by decide +kernel
theorem dX2_submit_67 : decode cX2_submit 67 = .ok (.invokevirtual 76, 3) := by decide +kernel
theorem dX2_submit_70 : decode cX2_submit 70 = .ok (.aload_n 0, 1) := by decide +kernel
theorem dX2_submit_71 : decode cX2_submit 71 = .ok (.getfield 19, 3) := by decide +kernel
theorem dX2_submit_74 : decode cX2_submit 74 = .ok (.iload_n 1, 1) := by decide +kernel
theorem dX2_submit_75 : decode cX2_submit 75 = .ok (.iload_n 2, 1) := by decide +kernel
theorem dX2_submit_76 : decode cX2_submit 76 = .ok (.iload_n 3, 1) := by decide +kernel
theorem dX2_submit_77 : decode cX2_submit 77 = .ok (.iload 4, 2) := by decide +kernel
theorem dX2_submit_79 : decode cX2_submit 79 = .ok (.aload_n 0, 1) := by decide +kernel
theorem dX2_submit_80 : decode cX2_submit 80 = .ok (.getfield 79, 3) := by decide +kernel
theorem dX2_submit_83 : decode cX2_submit 83 = .ok (.iload 5, 2) := by decide +kernel
theorem dX2_submit_85 : decode cX2_submit 85 = .ok (.i2l, 1) := by decide +kernel
theorem dX2_submit_86 : decode cX2_submit 86 = .ok (.ladd, 1) := by decide +kernel
theorem dX2_submit_87 : decode cX2_submit 87 = .ok (.invokevirtual 82, 3) := by decide +kernel
theorem dX2_submit_90 : decode cX2_submit 90 = .ok (.ireturn, 1) := by decide +kernel
set_option maxRecDepth 20000 in
theorem ggX2_dispatch_X1_mostUrgent : GoodIn wsX2_dispatch wsX1_mostUrgent := goodIn_r _ [9, 10, 11, 12, 13, 14, 8, 15, 16, 17, 18, 131, 132, 133, 134, 135, 136, 137, 138, 139, 140, 141, 142] (by decide +kernel) (by decide +kernel)
set_option maxRecDepth 20000 in
theorem gX2_dispatch_X1_mostUrgent : GoodIn wsX2_dispatch (wsV RX2 86 RX1 yX1_mostUrgent wsX1_mostUrgent) := goodIn_app (goodIn_of _ (by decide +kernel)) ggX2_dispatch_X1_mostUrgent
set_option maxRecDepth 20000 in
theorem ggX2_dispatch_X2_serve : GoodIn wsX2_dispatch wsX2_serve := goodIn_r _ [23, 1, 24, 3, 25, 26, 27, 28, 8, 29, 30, 31, 32, 33, 34, 35, 36, 37, 38, 39, 40, 41, 42, 43, 22, 44, 4, 45, 46, 47, 48, 49, 2, 50, 51, 52, 53, 16, 17, 54, 55, 56, 10, 18, 57, 58, 59, 60, 61, 62, 63, 64, 65, 66, 67, 68, 69, 70, 71, 72, 73, 74, 75, 76, 77, 78, 79, 80, 81, 82, 83, 84, 85, 86, 87, 88, 89, 90, 91, 92, 93, 94, 95, 96, 123, 124, 125, 126, 127, 128, 129, 130, 131, 132, 133, 134, 135, 136, 137, 138, 139, 140, 141, 142, 143, 144, 145, 146, 147, 148, 149] (by decide +kernel) (by decide +kernel)
set_option maxRecDepth 20000 in
theorem gX2_dispatch_X2_serve : GoodIn wsX2_dispatch (wsV RX2 90 RX2 yX2_serve wsX2_serve) := goodIn_app (goodIn_of _ (by decide +kernel)) ggX2_dispatch_X2_serve
set_option maxRecDepth 20000 in
theorem ggX2_dispatch_X2_beginSlice : GoodIn wsX2_dispatch wsX2_beginSlice := goodIn_r _ [100, 24, 3, 76, 25, 101, 102, 103, 65, 104, 70, 68, 105, 106, 107, 108, 109, 110, 111, 112, 113, 123, 124, 125, 126, 127, 128, 129, 130, 143, 144, 145, 146, 147, 148, 149] (by decide +kernel) (by decide +kernel)
set_option maxRecDepth 20000 in
theorem gX2_dispatch_X2_beginSlice : GoodIn wsX2_dispatch (wsV RX2 94 RX2 yX2_beginSlice wsX2_beginSlice) := goodIn_app (goodIn_of _ (by decide +kernel)) ggX2_dispatch_X2_beginSlice
set_option maxRecDepth 20000 in
theorem ggX2_dispatch_X1_nextAlong : GoodIn wsX2_dispatch wsX1_nextAlong := goodIn_r _ [117, 10, 30, 12, 13, 14, 8, 15, 16, 17, 18, 118, 119, 120, 121, 40, 122, 131, 132, 133, 134, 135, 136, 137, 138, 139, 140, 141, 142] (by decide +kernel) (by decide +kernel)
set_option maxRecDepth 20000 in
theorem gX2_dispatch_X1_nextAlong : GoodIn wsX2_dispatch (wsV RX2 100 RX1 yX1_nextAlong wsX1_nextAlong) := goodIn_app (goodIn_of _ (by decide +kernel)) ggX2_dispatch_X1_nextAlong
end
section
theorem dX2_dispatch_0 : decode cX2_dispatch 0 = .ok (.aload_n 0, 1) := by decide +kernel
theorem dX2_dispatch_1 : decode cX2_dispatch 1 = .ok (.getfield 19, 3) := by decide +kernel
theorem dX2_dispatch_4 : decode cX2_dispatch 4 = .ok (.aload_n 0, 1) := by decide +kernel
theorem dX2_dispatch_5 : decode cX2_dispatch 5 = .ok (.getfield 79, 3) := by decide +kernel
theorem dX2_dispatch_8 : decode cX2_dispatch 8 = .ok (.invokevirtual 86, 3) := by decide +kernel
theorem dX2_dispatch_11 : decode cX2_dispatch 11 = .ok (.istore_n 1, 1) := by decide +kernel
theorem dX2_dispatch_12 : decode cX2_dispatch 12 = .ok (.iload_n 1, 1) := by decide +kernel
theorem dX2_dispatch_13 : decode cX2_dispatch 13 = .ok (.iconst (-1), 1) := by decide +kernel
theorem dX2_dispatch_14 : decode cX2_dispatch 14 = .ok (.if_icmp .eq 11, 3) := by decide +kernel
theorem dX2_dispatch_17 : decode cX2_dispatch 17 = .ok (.aload_n 0, 1) := by decide +kernel
theorem dX2_dispatch_18 : decode cX2_dispatch 18 = .ok (.iload_n 1, 1) := by decide +kernel
theorem dX2_dispatch_19 : decode cX2_dispatch 19 = .ok (.iconst 3, 1) := by decide +kernel
theorem dX2_dispatch_20 : decode cX2_dispatch 20 = .ok (.invokevirtual 90, 3) := by decide +kernel
theorem dX2_dispatch_23 : decode cX2_dispatch 23 = .ok (.iload_n 1, 1) := by decide +kernel
theorem dX2_dispatch_24 : decode cX2_dispatch 24 = .ok (.ireturn, 1) := by decide +kernel
theorem dX2_dispatch_25 : decode cX2_dispatch 25 = .ok (.aload_n 0, 1) := by decide +kernel
theorem dX2_dispatch_26 : decode cX2_dispatch 26 = .ok (.getfield 23, 3) := by decide +kernel
theorem dX2_dispatch_29 : decode cX2_dispatch 29 = .ok (.iconst (-1), 1) := by decide +kernel
theorem dX2_dispatch_30 : decode cX2_dispatch 30 = .ok (.if_icmp .ne 7, 3) := by decide +kernel
theorem dX2_dispatch_33 : decode cX2_dispatch 33 = .ok (.aload_n 0, 1) := by decide +kernel
theorem dX2_dispatch_34 : decode cX2_dispatch 34 = .ok (.invokevirtual 94, 3) := by decide +kernel
theorem dX2_dispatch_37 : decode cX2_dispatch 37 = .ok (.aload_n 0, 1) := by decide +kernel
theorem dX2_dispatch_38 : decode cX2_dispatch 38 = .ok (.getfield 19, 3) := by decide +kernel
theorem dX2_dispatch_41 : decode cX2_dispatch 41 = .ok (.aload_n 0, 1) := by decide +kernel
theorem dX2_dispatch_42 : decode cX2_dispatch 42 = .ok (.getfield 23, 3) := by decide +kernel
theorem dX2_dispatch_45 : decode cX2_dispatch 45 = .ok (.aload_n 0, 1) := by decide +kernel
theorem dX2_dispatch_46 : decode cX2_dispatch 46 = .ok (.getfield 97, 3) := by decide +kernel
theorem dX2_dispatch_49 : decode cX2_dispatch 49 = .ok (.invokevirtual 100, 3) := by decide +kernel
theorem dX2_dispatch_52 : decode cX2_dispatch 52 = .ok (.istore_n 2, 1) := by decide +kernel
theorem dX2_dispatch_53 : decode cX2_dispatch 53 = .ok (.iload_n 2, 1) := by decide +kernel
theorem dX2_dispatch_54 : decode cX2_dispatch 54 = .ok (.iconst (-1), 1) := by decide +kernel
theorem dX2_dispatch_55 : decode cX2_dispatch 55 = .ok (.if_icmp .eq 9, 3) := by decide +kernel
theorem dX2_dispatch_58 : decode cX2_dispatch 58 = .ok (.aload_n 0, 1) := by decide +kernel
theorem dX2_dispatch_59 : decode cX2_dispatch 59 = .ok (.iload_n 2, 1) := by decide +kernel
theorem dX2_dispatch_60 : decode cX2_dispatch 60 = .ok (.iconst 2, 1) := by decide +kernel
theorem dX2_dispatch_61 : decode cX2_dispatch 61 = .ok (.invokevirtual 90, 3) := by decide +kernel
theorem dX2_dispatch_64 : decode cX2_dispatch 64 = .ok (.iload_n 2, 1) := by decide +kernel
theorem dX2_dispatch_65 : decode cX2_dispatch 65 = .ok (.ireturn, 1) := by decide +kernel
set_option maxRecDepth 20000 in
theorem ggX2_pass_X2_isWithin : GoodIn wsX2_pass wsX2_isWithin := goodIn_r _ [8] (by decide +kernel) (by decide +kernel)
set_option maxRecDepth 20000 in
theorem gX2_pass_X2_isWithin : GoodIn wsX2_pass (va_wsS RX2 27 yX2_isWithin wsX2_isWithin) := goodIn_app (goodIn_of _ (by decide +kernel)) ggX2_pass_X2_isWithin
theorem dX2_pass_0 : decode cX2_pass 0 = .ok (.iload_n 1, 1) := by decide +kernel
theorem dX2_pass_1 : decode cX2_pass 1 = .ok (.iconst 0, 1) := by decide +kernel
theorem dX2_pass_2 : decode cX2_pass 2 = .ok (.ldc 71, 2) := by decide +kernel
theorem dX2_pass_4 : decode cX2_pass 4 = .ok (.invokestatic 27, 3) := by decide +kernel
theorem dX2_pass_7 : decode cX2_pass 7 = .ok (.ifCond .ne 11, 3) := by decide +kernel
theorem dX2_pass_10 : decode cX2_pass 10 = .ok (.new 31, 3) := by decide +kernel
theorem dX2_pass_13 : decode cX2_pass 13 = .ok (.dup, 1) := by decide +kernel
theorem dX2_pass_14 : decode cX2_pass 14 = .ok (.invokespecial 33, 3) := by decide +kernel
theorem dX2_pass_17 : decode cX2_pass 17 = .ok (.athrow, 1) := by decide +kernel
theorem dX2_pass_18 : decode cX2_pass 18 = .ok (.aload_n 0, 1) := by decide +kernel
theorem dX2_pass_19 : decode cX2_pass 19 = .ok (.dup, 1) := by decide +kernel
theorem dX2_pass_20 : decode cX2_pass 20 = .ok (.getfield 79, 3) := by decide +kernel
theorem dX2_pass_23 : decode cX2_pass 23 = .ok (.iload_n 1, 1) := by decide +kernel
theorem dX2_pass_24 : decode cX2_pass 24 = .ok (.i2l, 1) := by decide +kernel
theorem dX2_pass_25 : decode cX2_pass 25 = .ok (.ladd, 1) := by decide +kernel
theorem dX2_pass_26 : decode cX2_pass 26 = .ok (.putfield 79, 3) := by decide +kernel
theorem dX2_pass_29 : decode cX2_pass 29 = .ok (.aload_n 0, 1) := by decide +kernel
theorem dX2_pass_30 : decode cX2_pass 30 = .ok (.getfield 79, 3) := by decide +kernel
theorem dX2_pass_33 : decode cX2_pass 33 = .ok (.lreturn, 1) := by decide +kernel
set_option maxRecDepth 20000 in
theorem ggX2_state_X1_isTicket : GoodIn wsX2_state wsX1_isTicket := goodIn_r _ [8, 9, 25, 26, 27, 28, 29, 30, 31, 32, 33, 34, 35, 36] (by decide +kernel) (by decide +kernel)
set_option maxRecDepth 20000 in
theorem gX2_state_X1_isTicket : GoodIn wsX2_state (wsV RX2 104 RX1 yX1_isTicket wsX1_isTicket) := goodIn_app (goodIn_of _ (by decide +kernel)) ggX2_state_X1_isTicket
set_option maxRecDepth 20000 in
theorem ggX2_state_X1_stateOf : GoodIn wsX2_state wsX1_stateOf := goodIn_r _ [13, 14, 15, 16, 25, 26, 27, 28, 29, 30, 31, 32, 33, 34, 35, 36] (by decide +kernel) (by decide +kernel)
set_option maxRecDepth 20000 in
theorem gX2_state_X1_stateOf : GoodIn wsX2_state (wsV RX2 110 RX1 yX1_stateOf wsX1_stateOf) := goodIn_app (goodIn_of _ (by decide +kernel)) ggX2_state_X1_stateOf
theorem dX2_state_0 : decode cX2_state 0 = .ok (.aload_n 0, 1) := by decide +kernel
theorem dX2_state_1 : decode cX2_state 1 = .ok (.getfield 19, 3) := by decide +kernel
theorem dX2_state_4 : decode cX2_state 4 = .ok (.iload_n 1, 1) := by decide +kernel
theorem dX2_state_5 : decode cX2_state 5 = .ok (.invokevirtual 104, 3) := by decide +kernel
theorem dX2_state_8 : decode cX2_state 8 = .ok (.ifCond .ne 11, 3) := by decide +kernel
theorem dX2_state_11 : decode cX2_state 11 = .ok (.new 107, 3) := by decide +kernel
theorem dX2_state_14 : decode cX2_state 14 = .ok (.dup, 1) := by decide +kernel
theorem dX2_state_15 : decode cX2_state 15 = .ok (.invokespecial 109, 3) := by decide +kernel
theorem dX2_state_18 : decode cX2_state 18 = .ok (.athrow, 1) := by decide +kernel
theorem dX2_state_19 : decode cX2_state 19 = .ok (.aload_n 0, 1) := by decide +kernel
theorem dX2_state_20 : decode cX2_state 20 = .ok (.getfield 19, 3) := by decide +kernel
theorem dX2_state_23 : decode cX2_state 23 = .ok (.iload_n 1, 1) := by decide +kernel
theorem dX2_state_24 : decode cX2_state 24 = .ok (.invokevirtual 110, 3) := by decide +kernel
theorem dX2_state_27 : decode cX2_state 27 = .ok (.ireturn, 1) := by decide +kernel
set_option maxRecDepth 20000 in
theorem ggX2_order_X1_servedAt : GoodIn wsX2_order wsX1_servedAt := goodIn_r _ [6, 7, 8, 17, 18, 19, 20, 21, 22, 23, 24, 25, 26, 27, 28] (by decide +kernel) (by decide +kernel)
set_option maxRecDepth 20000 in
theorem gX2_order_X1_servedAt : GoodIn wsX2_order (wsV RX2 113 RX1 yX1_servedAt wsX1_servedAt) := goodIn_app (goodIn_of _ (by decide +kernel)) ggX2_order_X1_servedAt
theorem dX2_order_0 : decode cX2_order 0 = .ok (.aload_n 0, 1) := by decide +kernel
theorem dX2_order_1 : decode cX2_order 1 = .ok (.getfield 19, 3) := by decide +kernel
theorem dX2_order_4 : decode cX2_order 4 = .ok (.iload_n 1, 1) := by decide +kernel
theorem dX2_order_5 : decode cX2_order 5 = .ok (.invokevirtual 113, 3) := by decide +kernel
theorem dX2_order_8 : decode cX2_order 8 = .ok (.ireturn, 1) := by decide +kernel
set_option maxRecDepth 20000 in
theorem ggX2_tag_X2_requireThere : GoodIn wsX2_tag wsX2_requireThere := goodIn_ca (goodIn_r _ [7, 8, 9, 2, 10, 11, 6, 12, 13, 14, 15, 16, 17, 18, 24, 25, 26, 27, 28, 29, 30, 31, 32, 33, 34, 35, 36, 37, 38] (by decide +kernel) (by decide +kernel)) (goodIn_sub (fun _ h => List.mem_cons_of_mem _ (List.mem_append_right _ h)) (by decide +kernel))
set_option maxRecDepth 20000 in
theorem gX2_tag_X2_requireThere : GoodIn wsX2_tag (wsV RX2 50 RX2 yX2_requireThere wsX2_requireThere) := goodIn_app (goodIn_of _ (by decide +kernel)) ggX2_tag_X2_requireThere
set_option maxRecDepth 20000 in
theorem ggX2_tag_X0_tagOf : GoodIn wsX2_tag wsX0_tagOf := goodIn_r _ [22, 23, 32, 33, 34, 35, 36, 37, 38] (by decide +kernel) (by decide +kernel)
set_option maxRecDepth 20000 in
theorem gX2_tag_X0_tagOf : GoodIn wsX2_tag (wsV RX2 116 RX0 yX0_tagOf wsX0_tagOf) := goodIn_app (goodIn_of _ (by decide +kernel)) ggX2_tag_X0_tagOf
theorem dX2_tag_0 : decode cX2_tag 0 = .ok (.iload_n 1, 1) := by decide +kernel
theorem dX2_tag_1 : decode cX2_tag 1 = .ok (.bipush 8, 2) := by decide +kernel
theorem dX2_tag_3 : decode cX2_tag 3 = .ok (.if_icmp .ne 8, 3) := by decide +kernel
theorem dX2_tag_6 : decode cX2_tag 6 = .ok (.aload_n 0, 1) := by decide +kernel
theorem dX2_tag_7 : decode cX2_tag 7 = .ok (.getfield 38, 3) := by decide +kernel
theorem dX2_tag_10 : decode cX2_tag 10 = .ok (.lreturn, 1) := by decide +kernel
theorem dX2_tag_11 : decode cX2_tag 11 = .ok (.aload_n 0, 1) := by decide +kernel
theorem dX2_tag_12 : decode cX2_tag 12 = .ok (.iload_n 1, 1) := by decide +kernel
theorem dX2_tag_13 : decode cX2_tag 13 = .ok (.invokevirtual 50, 3) := by decide +kernel
theorem dX2_tag_16 : decode cX2_tag 16 = .ok (.aload_n 0, 1) := by decide +kernel
theorem dX2_tag_17 : decode cX2_tag 17 = .ok (.getfield 10, 3) := by decide +kernel
theorem dX2_tag_20 : decode cX2_tag 20 = .ok (.iload_n 1, 1) := by decide +kernel
theorem dX2_tag_21 : decode cX2_tag 21 = .ok (.invokevirtual 116, 3) := by decide +kernel
theorem dX2_tag_24 : decode cX2_tag 24 = .ok (.lreturn, 1) := by decide +kernel
set_option maxRecDepth 20000 in
theorem ggX2_lag_X2_requireThere : GoodIn wsX2_lag wsX2_requireThere := goodIn_ca (goodIn_r _ [8, 1, 2, 3, 9, 10, 7, 11, 12, 13, 14, 15, 16, 17, 24, 25, 26, 27, 28, 29, 30, 31, 32, 33, 34, 35, 36, 37, 38] (by decide +kernel) (by decide +kernel)) (goodIn_sub (fun _ h => List.mem_cons_of_mem _ (List.mem_append_right _ h)) (by decide +kernel))
set_option maxRecDepth 20000 in
theorem gX2_lag_X2_requireThere : GoodIn wsX2_lag (wsV RX2 50 RX2 yX2_requireThere wsX2_requireThere) := goodIn_app (goodIn_of _ (by decide +kernel)) ggX2_lag_X2_requireThere
set_option maxRecDepth 20000 in
theorem ggX2_lag_X0_leadOf : GoodIn wsX2_lag wsX0_leadOf := goodIn_r _ [21, 22, 23, 32, 33, 34, 35, 36, 37, 38] (by decide +kernel) (by decide +kernel)
set_option maxRecDepth 20000 in
theorem gX2_lag_X0_leadOf : GoodIn wsX2_lag (wsV RX2 120 RX0 yX0_leadOf wsX0_leadOf) := goodIn_app (goodIn_of _ (by decide +kernel)) ggX2_lag_X0_leadOf
theorem dX2_lag_0 : decode cX2_lag 0 = .ok (.aload_n 0, 1) := by decide +kernel
theorem dX2_lag_1 : decode cX2_lag 1 = .ok (.iload_n 1, 1) := by decide +kernel
theorem dX2_lag_2 : decode cX2_lag 2 = .ok (.invokevirtual 50, 3) := by decide +kernel
theorem dX2_lag_5 : decode cX2_lag 5 = .ok (.aload_n 0, 1) := by decide +kernel
theorem dX2_lag_6 : decode cX2_lag 6 = .ok (.iload_n 2, 1) := by decide +kernel
theorem dX2_lag_7 : decode cX2_lag 7 = .ok (.invokevirtual 50, 3) := by decide +kernel
theorem dX2_lag_10 : decode cX2_lag 10 = .ok (.iload_n 1, 1) := by decide +kernel
theorem dX2_lag_11 : decode cX2_lag 11 = .ok (.iload_n 2, 1) := by decide +kernel
theorem dX2_lag_12 : decode cX2_lag 12 = .ok (.if_icmp .ne 11, 3) := by decide +kernel
theorem dX2_lag_15 : decode cX2_lag 15 = .ok (.new 31, 3) := by decide +kernel
theorem dX2_lag_18 : decode cX2_lag 18 = .ok (.dup, 1) := by decide +kernel
theorem dX2_lag_19 : decode cX2_lag 19 = .ok (.invokespecial 33, 3) := by decide +kernel
theorem dX2_lag_22 : decode cX2_lag 22 = .ok (.athrow, 1) := by decide +kernel
theorem dX2_lag_23 : decode cX2_lag 23 = .ok (.aload_n 0, 1) := by decide +kernel
theorem dX2_lag_24 : decode cX2_lag 24 = .ok (.getfield 10, 3) := by decide +kernel
theorem dX2_lag_27 : decode cX2_lag 27 = .ok (.iload_n 1, 1) := by decide +kernel
theorem dX2_lag_28 : decode cX2_lag 28 = .ok (.iload_n 2, 1) := by decide +kernel
theorem dX2_lag_29 : decode cX2_lag 29 = .ok (.invokevirtual 120, 3) := by decide +kernel
theorem dX2_lag_32 : decode cX2_lag 32 = .ok (.lreturn, 1) := by decide +kernel
set_option maxRecDepth 20000 in
theorem ggX2_count_X2_isWithin : GoodIn wsX2_count wsX2_isWithin := goodIn_r _ [5] (by decide +kernel) (by decide +kernel)
set_option maxRecDepth 20000 in
theorem gX2_count_X2_isWithin : GoodIn wsX2_count (va_wsS RX2 27 yX2_isWithin wsX2_isWithin) := goodIn_app (goodIn_of _ (by decide +kernel)) ggX2_count_X2_isWithin
set_option maxRecDepth 20000 in
theorem ggX2_count_X0_sectorsOf : GoodIn wsX2_count wsX0_sectorsOf := goodIn_r _ [10, 11, 56, 57, 58, 59, 60, 61, 62] (by decide +kernel) (by decide +kernel)
set_option maxRecDepth 20000 in
theorem gX2_count_X0_sectorsOf : GoodIn wsX2_count (wsV RX2 124 RX0 yX0_sectorsOf wsX0_sectorsOf) := goodIn_app (goodIn_of _ (by decide +kernel)) ggX2_count_X0_sectorsOf
set_option maxRecDepth 20000 in
theorem ggX2_count_X0_waitingOf : GoodIn wsX2_count wsX0_waitingOf := goodIn_r _ [15, 16, 56, 57, 58, 59, 60, 61, 62] (by decide +kernel) (by decide +kernel)
set_option maxRecDepth 20000 in
theorem gX2_count_X0_waitingOf : GoodIn wsX2_count (wsV RX2 54 RX0 yX0_waitingOf wsX0_waitingOf) := goodIn_app (goodIn_of _ (by decide +kernel)) ggX2_count_X0_waitingOf
set_option maxRecDepth 20000 in
theorem ggX2_count_X2_countOfDisk : GoodIn wsX2_count wsX2_countOfDisk := goodIn_r _ [20, 1, 21, 22, 23, 24, 25, 26, 27, 28, 29, 9, 30, 31, 32, 33, 34, 35, 36, 37, 38, 39, 40, 41, 42, 43, 44, 45, 46, 47, 48, 49, 50, 51, 52, 53, 54, 55, 56, 57, 58, 59, 60, 61, 62, 63, 64, 65, 66, 67, 68, 69, 70, 71, 72, 73, 74] (by decide +kernel) (by decide +kernel)
set_option maxRecDepth 20000 in
theorem gX2_count_X2_countOfDisk : GoodIn wsX2_count (wsV RX2 127 RX2 yX2_countOfDisk wsX2_countOfDisk) := goodIn_app (goodIn_of _ (by decide +kernel)) ggX2_count_X2_countOfDisk
theorem dX2_count_0 : decode cX2_count 0 = .ok (.iload_n 1, 1) := by decide +kernel
theorem dX2_count_1 : decode cX2_count 1 = .ok (.bipush 8, 2) := by decide +kernel
theorem dX2_count_3 : decode cX2_count 3 = .ok (.bipush 15, 2) := by decide +kernel
theorem dX2_count_5 : decode cX2_count 5 = .ok (.invokestatic 27, 3) := by decide +kernel
theorem dX2_count_8 : decode cX2_count 8 = .ok (.ifCond .eq 16, 3) := by decide +kernel
theorem dX2_count_11 : decode cX2_count 11 = .ok (.aload_n 0, 1) := by decide +kernel
theorem dX2_count_12 : decode cX2_count 12 = .ok (.getfield 10, 3) := by decide +kernel
theorem dX2_count_15 : decode cX2_count 15 = .ok (.iload_n 1, 1) := by decide +kernel
theorem dX2_count_16 : decode cX2_count 16 = .ok (.bipush 8, 2) := by decide +kernel
theorem dX2_count_18 : decode cX2_count 18 = .ok (.isub, 1) := by decide +kernel
theorem dX2_count_19 : decode cX2_count 19 = .ok (.invokevirtual 124, 3) := by decide +kernel
theorem dX2_count_22 : decode cX2_count 22 = .ok (.i2l, 1) := by decide +kernel
theorem dX2_count_23 : decode cX2_count 23 = .ok (.lreturn, 1) := by decide +kernel
theorem dX2_count_24 : decode cX2_count 24 = .ok (.iload_n 1, 1) := by decide +kernel
theorem dX2_count_25 : decode cX2_count 25 = .ok (.bipush 16, 2) := by decide +kernel
theorem dX2_count_27 : decode cX2_count 27 = .ok (.bipush 23, 2) := by decide +kernel
theorem dX2_count_29 : decode cX2_count 29 = .ok (.invokestatic 27, 3) := by decide +kernel
theorem dX2_count_32 : decode cX2_count 32 = .ok (.ifCond .eq 16, 3) := by decide +kernel
theorem dX2_count_35 : decode cX2_count 35 = .ok (.aload_n 0, 1) := by decide +kernel
theorem dX2_count_36 : decode cX2_count 36 = .ok (.getfield 10, 3) := by decide +kernel
theorem dX2_count_39 : decode cX2_count 39 = .ok (.iload_n 1, 1) := by decide +kernel
theorem dX2_count_40 : decode cX2_count 40 = .ok (.bipush 16, 2) := by decide +kernel
theorem dX2_count_42 : decode cX2_count 42 = .ok (.isub, 1) := by decide +kernel
theorem dX2_count_43 : decode cX2_count 43 = .ok (.invokevirtual 54, 3) := by decide +kernel
theorem dX2_count_46 : decode cX2_count 46 = .ok (.i2l, 1) := by decide +kernel
theorem dX2_count_47 : decode cX2_count 47 = .ok (.lreturn, 1) := by decide +kernel
theorem dX2_count_48 : decode cX2_count 48 = .ok (.aload_n 0, 1) := by decide +kernel
theorem dX2_count_49 : decode cX2_count 49 = .ok (.iload_n 1, 1) := by decide +kernel
theorem dX2_count_50 : decode cX2_count 50 = .ok (.invokevirtual 127, 3) := by decide +kernel
theorem dX2_count_53 : decode cX2_count 53 = .ok (.lreturn, 1) := by decide +kernel
set_option maxRecDepth 20000 in
theorem ggX2_countOfDisk_X0_howMany : GoodIn wsX2_countOfDisk wsX0_howMany := goodIn_r _ [12, 13, 38, 39, 40, 41, 42, 43, 44] (by decide +kernel) (by decide +kernel)
set_option maxRecDepth 20000 in
theorem gX2_countOfDisk_X0_howMany : GoodIn wsX2_countOfDisk (wsV RX2 130 RX0 yX0_howMany wsX0_howMany) := goodIn_app (goodIn_of _ (by decide +kernel)) ggX2_countOfDisk_X0_howMany
set_option maxRecDepth 20000 in
theorem ggX2_countOfDisk_X1_waiting : GoodIn wsX2_countOfDisk wsX1_waiting := goodIn_r _ [18, 19, 20, 45, 46, 47, 48, 49, 50, 51, 52, 53, 54, 55, 56] (by decide +kernel) (by decide +kernel)
set_option maxRecDepth 20000 in
theorem gX2_countOfDisk_X1_waiting : GoodIn wsX2_countOfDisk (wsV RX2 134 RX1 yX1_waiting wsX1_waiting) := goodIn_app (goodIn_of _ (by decide +kernel)) ggX2_countOfDisk_X1_waiting
set_option maxRecDepth 20000 in
theorem ggX2_countOfDisk_X1_served : GoodIn wsX2_countOfDisk wsX1_served := goodIn_r _ [24, 20, 45, 46, 47, 48, 49, 50, 51, 52, 53, 54, 55, 56] (by decide +kernel) (by decide +kernel)
set_option maxRecDepth 20000 in
theorem gX2_countOfDisk_X1_served : GoodIn wsX2_countOfDisk (wsV RX2 137 RX1 yX1_served wsX1_served) := goodIn_app (goodIn_of _ (by decide +kernel)) ggX2_countOfDisk_X1_served
set_option maxRecDepth 20000 in
theorem ggX2_countOfDisk_X1_urgent : GoodIn wsX2_countOfDisk wsX1_urgent := goodIn_r _ [28, 29, 45, 46, 47, 48, 49, 50, 51, 52, 53, 54, 55, 56] (by decide +kernel) (by decide +kernel)
set_option maxRecDepth 20000 in
theorem gX2_countOfDisk_X1_urgent : GoodIn wsX2_countOfDisk (wsV RX2 140 RX1 yX1_urgent wsX1_urgent) := goodIn_app (goodIn_of _ (by decide +kernel)) ggX2_countOfDisk_X1_urgent
theorem dX2_countOfDisk_0 : decode cX2_countOfDisk 0 = .ok (.iload_n 1, 1) := by decide +kernel
theorem dX2_countOfDisk_1 : decode cX2_countOfDisk 1 = .ok (.tableswitch 106 0 7 #[47, 56, 65, 74, 83, 89, 94, 100], 47) := by decide +kernel
theorem dX2_countOfDisk_48 : decode cX2_countOfDisk 48 = .ok (.aload_n 0, 1) := by decide +kernel
theorem dX2_countOfDisk_49 : decode cX2_countOfDisk 49 = .ok (.getfield 10, 3) := by decide +kernel
theorem dX2_countOfDisk_52 : decode cX2_countOfDisk 52 = .ok (.invokevirtual 130, 3) := by decide +kernel
theorem dX2_countOfDisk_55 : decode cX2_countOfDisk 55 = .ok (.i2l, 1) := by decide +kernel
theorem dX2_countOfDisk_56 : decode cX2_countOfDisk 56 = .ok (.lreturn, 1) := by decide +kernel
theorem dX2_countOfDisk_57 : decode cX2_countOfDisk 57 = .ok (.aload_n 0, 1) := by decide +kernel
theorem dX2_countOfDisk_58 : decode cX2_countOfDisk 58 = .ok (.getfield 19, 3) := by decide +kernel
theorem dX2_countOfDisk_61 : decode cX2_countOfDisk 61 = .ok (.invokevirtual 134, 3) := by decide +kernel
theorem dX2_countOfDisk_64 : decode cX2_countOfDisk 64 = .ok (.i2l, 1) := by decide +kernel
theorem dX2_countOfDisk_65 : decode cX2_countOfDisk 65 = .ok (.lreturn, 1) := by decide +kernel
theorem dX2_countOfDisk_66 : decode cX2_countOfDisk 66 = .ok (.aload_n 0, 1) := by decide +kernel
theorem dX2_countOfDisk_67 : decode cX2_countOfDisk 67 = .ok (.getfield 19, 3) := by decide +kernel
theorem dX2_countOfDisk_70 : decode cX2_countOfDisk 70 = .ok (.invokevirtual 137, 3) := by decide +kernel
theorem dX2_countOfDisk_73 : decode cX2_countOfDisk 73 = .ok (.i2l, 1) := by decide +kernel
theorem dX2_countOfDisk_74 : decode cX2_countOfDisk 74 = .ok (.lreturn, 1) := by decide +kernel
theorem dX2_countOfDisk_75 : decode cX2_countOfDisk 75 = .ok (.aload_n 0, 1) := by decide +kernel
theorem dX2_countOfDisk_76 : decode cX2_countOfDisk 76 = .ok (.getfield 19, 3) := by decide +kernel
theorem dX2_countOfDisk_79 : decode cX2_countOfDisk 79 = .ok (.invokevirtual 140, 3) := by decide +kernel
theorem dX2_countOfDisk_82 : decode cX2_countOfDisk 82 = .ok (.i2l, 1) := by decide +kernel
theorem dX2_countOfDisk_83 : decode cX2_countOfDisk 83 = .ok (.lreturn, 1) := by decide +kernel
theorem dX2_countOfDisk_84 : decode cX2_countOfDisk 84 = .ok (.aload_n 0, 1) := by decide +kernel
theorem dX2_countOfDisk_85 : decode cX2_countOfDisk 85 = .ok (.getfield 97, 3) := by decide +kernel
theorem dX2_countOfDisk_88 : decode cX2_countOfDisk 88 = .ok (.i2l, 1) := by decide +kernel
theorem dX2_countOfDisk_89 : decode cX2_countOfDisk 89 = .ok (.lreturn, 1) := by decide +kernel
theorem dX2_countOfDisk_90 : decode cX2_countOfDisk 90 = .ok (.aload_n 0, 1) := by decide +kernel
theorem dX2_countOfDisk_91 : decode cX2_countOfDisk 91 = .ok (.getfield 143, 3) := by decide +kernel
theorem dX2_countOfDisk_94 : decode cX2_countOfDisk 94 = .ok (.lreturn, 1) := by decide +kernel
theorem dX2_countOfDisk_95 : decode cX2_countOfDisk 95 = .ok (.aload_n 0, 1) := by decide +kernel
theorem dX2_countOfDisk_96 : decode cX2_countOfDisk 96 = .ok (.getfield 23, 3) := by decide +kernel
theorem dX2_countOfDisk_99 : decode cX2_countOfDisk 99 = .ok (.i2l, 1) := by decide +kernel
theorem dX2_countOfDisk_100 : decode cX2_countOfDisk 100 = .ok (.lreturn, 1) := by decide +kernel
theorem dX2_countOfDisk_101 : decode cX2_countOfDisk 101 = .ok (.aload_n 0, 1) := by decide +kernel
theorem dX2_countOfDisk_102 : decode cX2_countOfDisk 102 = .ok (.getfield 146, 3) := by decide +kernel
theorem dX2_countOfDisk_105 : decode cX2_countOfDisk 105 = .ok (.i2l, 1) := by decide +kernel
theorem dX2_countOfDisk_106 : decode cX2_countOfDisk 106 = .ok (.lreturn, 1) := by decide +kernel
theorem dX2_countOfDisk_107 : decode cX2_countOfDisk 107 = .ok (.ldc2_w 149, 3) := by decide +kernel
theorem dX2_countOfDisk_110 : decode cX2_countOfDisk 110 = .ok (.lreturn, 1) := by decide +kernel
set_option maxRecDepth 20000 in
theorem ggX2_requireThere_X2_isWithin : GoodIn wsX2_requireThere wsX2_isWithin := goodIn_r _ [7] (by decide +kernel) (by decide +kernel)
set_option maxRecDepth 20000 in
theorem gX2_requireThere_X2_isWithin : GoodIn wsX2_requireThere (va_wsS RX2 27 yX2_isWithin wsX2_isWithin) := goodIn_app (goodIn_of _ (by decide +kernel)) ggX2_requireThere_X2_isWithin
set_option maxRecDepth 20000 in
theorem ggX2_requireThere_X0_isThere : GoodIn wsX2_requireThere wsX0_isThere := goodIn_r _ [12, 13, 22, 23, 24, 25, 26, 27, 28] (by decide +kernel) (by decide +kernel)
set_option maxRecDepth 20000 in
theorem gX2_requireThere_X0_isThere : GoodIn wsX2_requireThere (wsV RX2 34 RX0 yX0_isThere wsX0_isThere) := goodIn_app (goodIn_of _ (by decide +kernel)) ggX2_requireThere_X0_isThere
theorem dX2_requireThere_0 : decode cX2_requireThere 0 = .ok (.iload_n 1, 1) := by decide +kernel
theorem dX2_requireThere_1 : decode cX2_requireThere 1 = .ok (.iconst 0, 1) := by decide +kernel
theorem dX2_requireThere_2 : decode cX2_requireThere 2 = .ok (.bipush 7, 2) := by decide +kernel
theorem dX2_requireThere_4 : decode cX2_requireThere 4 = .ok (.invokestatic 27, 3) := by decide +kernel
theorem dX2_requireThere_7 : decode cX2_requireThere 7 = .ok (.ifCond .eq 14, 3) := by decide +kernel
theorem dX2_requireThere_10 : decode cX2_requireThere 10 = .ok (.aload_n 0, 1) := by decide +kernel
theorem dX2_requireThere_11 : decode cX2_requireThere 11 = .ok (.getfield 10, 3) := by decide +kernel
theorem dX2_requireThere_14 : decode cX2_requireThere 14 = .ok (.iload_n 1, 1) := by decide +kernel
theorem dX2_requireThere_15 : decode cX2_requireThere 15 = .ok (.invokevirtual 34, 3) := by decide +kernel
theorem dX2_requireThere_18 : decode cX2_requireThere 18 = .ok (.ifCond .ne 11, 3) := by decide +kernel
theorem dX2_requireThere_21 : decode cX2_requireThere 21 = .ok (.new 31, 3) := by decide +kernel
theorem dX2_requireThere_24 : decode cX2_requireThere 24 = .ok (.dup, 1) := by decide +kernel
theorem dX2_requireThere_25 : decode cX2_requireThere 25 = .ok (.invokespecial 33, 3) := by decide +kernel
theorem dX2_requireThere_28 : decode cX2_requireThere 28 = .ok (.athrow, 1) := by decide +kernel
theorem dX2_requireThere_29 : decode cX2_requireThere 29 = .ok (.return_, 1) := by decide +kernel
theorem dX2_isWithin_0 : decode cX2_isWithin 0 = .ok (.iload_n 0, 1) := by decide +kernel
theorem dX2_isWithin_1 : decode cX2_isWithin 1 = .ok (.iload_n 1, 1) := by decide +kernel
theorem dX2_isWithin_2 : decode cX2_isWithin 2 = .ok (.if_icmp .lt 12, 3) := by decide +kernel
theorem dX2_isWithin_5 : decode cX2_isWithin 5 = .ok (.iload_n 0, 1) := by decide +kernel
theorem dX2_isWithin_6 : decode cX2_isWithin 6 = .ok (.iload_n 2, 1) := by decide +kernel
theorem dX2_isWithin_7 : decode cX2_isWithin 7 = .ok (.if_icmp .gt 7, 3) := by decide +kernel
theorem dX2_isWithin_10 : decode cX2_isWithin 10 = .ok (.iconst 1, 1) := by decide +kernel
theorem dX2_isWithin_11 : decode cX2_isWithin 11 = .ok (.goto 4, 3) := by decide +kernel
theorem dX2_isWithin_14 : decode cX2_isWithin 14 = .ok (.iconst 0, 1) := by decide +kernel
theorem dX2_isWithin_15 : decode cX2_isWithin 15 = .ok (.ireturn, 1) := by decide +kernel
set_option maxRecDepth 20000 in
theorem ggX2_areOnDisk_X2_isWithin : GoodIn wsX2_areOnDisk wsX2_isWithin := goodIn_r _ [5] (by decide +kernel) (by decide +kernel)
set_option maxRecDepth 20000 in
theorem gX2_areOnDisk_X2_isWithin : GoodIn wsX2_areOnDisk (va_wsS RX2 27 yX2_isWithin wsX2_isWithin) := goodIn_app (goodIn_of _ (by decide +kernel)) ggX2_areOnDisk_X2_isWithin
theorem dX2_areOnDisk_0 : decode cX2_areOnDisk 0 = .ok (.iload_n 1, 1) := by decide +kernel
theorem dX2_areOnDisk_1 : decode cX2_areOnDisk 1 = .ok (.iconst 1, 1) := by decide +kernel
theorem dX2_areOnDisk_2 : decode cX2_areOnDisk 2 = .ok (.bipush 64, 2) := by decide +kernel
theorem dX2_areOnDisk_4 : decode cX2_areOnDisk 4 = .ok (.invokestatic 27, 3) := by decide +kernel
theorem dX2_areOnDisk_7 : decode cX2_areOnDisk 7 = .ok (.ifCond .eq 19, 3) := by decide +kernel
theorem dX2_areOnDisk_10 : decode cX2_areOnDisk 10 = .ok (.iload_n 0, 1) := by decide +kernel
theorem dX2_areOnDisk_11 : decode cX2_areOnDisk 11 = .ok (.iconst 0, 1) := by decide +kernel
theorem dX2_areOnDisk_12 : decode cX2_areOnDisk 12 = .ok (.ldc 151, 2) := by decide +kernel
theorem dX2_areOnDisk_14 : decode cX2_areOnDisk 14 = .ok (.iload_n 1, 1) := by decide +kernel
theorem dX2_areOnDisk_15 : decode cX2_areOnDisk 15 = .ok (.isub, 1) := by decide +kernel
theorem dX2_areOnDisk_16 : decode cX2_areOnDisk 16 = .ok (.invokestatic 27, 3) := by decide +kernel
theorem dX2_areOnDisk_19 : decode cX2_areOnDisk 19 = .ok (.ifCond .eq 7, 3) := by decide +kernel
theorem dX2_areOnDisk_22 : decode cX2_areOnDisk 22 = .ok (.iconst 1, 1) := by decide +kernel
theorem dX2_areOnDisk_23 : decode cX2_areOnDisk 23 = .ok (.goto 4, 3) := by decide +kernel
theorem dX2_areOnDisk_26 : decode cX2_areOnDisk 26 = .ok (.iconst 0, 1) := by decide +kernel
theorem dX2_areOnDisk_27 : decode cX2_areOnDisk 27 = .ok (.ireturn, 1) := by decide +kernel
set_option maxRecDepth 20000 in
theorem ggX2_beginSlice_X0_nextInTurn : GoodIn wsX2_beginSlice wsX0_nextInTurn := goodIn_r _ [9, 10, 11, 29, 30, 31, 32, 33, 34, 35] (by decide +kernel) (by decide +kernel)
set_option maxRecDepth 20000 in
theorem gX2_beginSlice_X0_nextInTurn : GoodIn wsX2_beginSlice (wsV RX2 152 RX0 yX0_nextInTurn wsX0_nextInTurn) := goodIn_app (goodIn_of _ (by decide +kernel)) ggX2_beginSlice_X0_nextInTurn
set_option maxRecDepth 20000 in
theorem ggX2_beginSlice_X0_budgetOf : GoodIn wsX2_beginSlice wsX0_budgetOf := goodIn_r _ [15, 16, 29, 30, 31, 32, 33, 34, 35] (by decide +kernel) (by decide +kernel)
set_option maxRecDepth 20000 in
theorem gX2_beginSlice_X0_budgetOf : GoodIn wsX2_beginSlice (wsV RX2 155 RX0 yX0_budgetOf wsX0_budgetOf) := goodIn_app (goodIn_of _ (by decide +kernel)) ggX2_beginSlice_X0_budgetOf
set_option maxRecDepth 20000 in
theorem ggX2_beginSlice_X0_tagOf : GoodIn wsX2_beginSlice wsX0_tagOf := goodIn_r _ [20, 11, 29, 30, 31, 32, 33, 34, 35] (by decide +kernel) (by decide +kernel)
set_option maxRecDepth 20000 in
theorem gX2_beginSlice_X0_tagOf : GoodIn wsX2_beginSlice (wsV RX2 116 RX0 yX0_tagOf wsX0_tagOf) := goodIn_app (goodIn_of _ (by decide +kernel)) ggX2_beginSlice_X0_tagOf
theorem dX2_beginSlice_0 : decode cX2_beginSlice 0 = .ok (.aload_n 0, 1) := by decide +kernel
theorem dX2_beginSlice_1 : decode cX2_beginSlice 1 = .ok (.getfield 10, 3) := by decide +kernel
theorem dX2_beginSlice_4 : decode cX2_beginSlice 4 = .ok (.invokevirtual 152, 3) := by decide +kernel
theorem dX2_beginSlice_7 : decode cX2_beginSlice 7 = .ok (.istore_n 1, 1) := by decide +kernel
theorem dX2_beginSlice_8 : decode cX2_beginSlice 8 = .ok (.iload_n 1, 1) := by decide +kernel
theorem dX2_beginSlice_9 : decode cX2_beginSlice 9 = .ok (.iconst (-1), 1) := by decide +kernel
theorem dX2_beginSlice_10 : decode cX2_beginSlice 10 = .ok (.if_icmp .eq 32, 3) := by decide +kernel
theorem dX2_beginSlice_13 : decode cX2_beginSlice 13 = .ok (.aload_n 0, 1) := by decide +kernel
theorem dX2_beginSlice_14 : decode cX2_beginSlice 14 = .ok (.iload_n 1, 1) := by decide +kernel
theorem dX2_beginSlice_15 : decode cX2_beginSlice 15 = .ok (.putfield 23, 3) := by decide +kernel
theorem dX2_beginSlice_18 : decode cX2_beginSlice 18 = .ok (.aload_n 0, 1) := by decide +kernel
theorem dX2_beginSlice_19 : decode cX2_beginSlice 19 = .ok (.aload_n 0, 1) := by decide +kernel
theorem dX2_beginSlice_20 : decode cX2_beginSlice 20 = .ok (.getfield 10, 3) := by decide +kernel
theorem dX2_beginSlice_23 : decode cX2_beginSlice 23 = .ok (.iload_n 1, 1) := by decide +kernel
theorem dX2_beginSlice_24 : decode cX2_beginSlice 24 = .ok (.invokevirtual 155, 3) := by decide +kernel
theorem dX2_beginSlice_27 : decode cX2_beginSlice 27 = .ok (.putfield 146, 3) := by decide +kernel
theorem dX2_beginSlice_30 : decode cX2_beginSlice 30 = .ok (.aload_n 0, 1) := by decide +kernel
theorem dX2_beginSlice_31 : decode cX2_beginSlice 31 = .ok (.aload_n 0, 1) := by decide +kernel
theorem dX2_beginSlice_32 : decode cX2_beginSlice 32 = .ok (.getfield 10, 3) := by decide +kernel
theorem dX2_beginSlice_35 : decode cX2_beginSlice 35 = .ok (.iload_n 1, 1) := by decide +kernel
theorem dX2_beginSlice_36 : decode cX2_beginSlice 36 = .ok (.invokevirtual 116, 3) := by decide +kernel
theorem dX2_beginSlice_39 : decode cX2_beginSlice 39 = .ok (.putfield 38, 3) := by decide +kernel
theorem dX2_beginSlice_42 : decode cX2_beginSlice 42 = .ok (.return_, 1) := by decide +kernel
theorem dX2_endSlice_0 : decode cX2_endSlice 0 = .ok (.aload_n 0, 1) := by decide +kernel
theorem dX2_endSlice_1 : decode cX2_endSlice 1 = .ok (.iconst (-1), 1) := by decide +kernel
theorem dX2_endSlice_2 : decode cX2_endSlice 2 = .ok (.putfield 23, 3) := by decide +kernel
theorem dX2_endSlice_5 : decode cX2_endSlice 5 = .ok (.aload_n 0, 1) := by decide +kernel
theorem dX2_endSlice_6 : decode cX2_endSlice 6 = .ok (.iconst 0, 1) := by decide +kernel
theorem dX2_endSlice_7 : decode cX2_endSlice 7 = .ok (.putfield 146, 3) := by decide +kernel
theorem dX2_endSlice_10 : decode cX2_endSlice 10 = .ok (.return_, 1) := by decide +kernel
set_option maxRecDepth 20000 in
theorem ggX2_serve_X1_ownerOf : GoodIn wsX2_serve wsX1_ownerOf := goodIn_r _ [9, 10, 92, 93, 94, 95, 96, 97, 98, 99, 100, 101, 102, 103] (by decide +kernel) (by decide +kernel)
set_option maxRecDepth 20000 in
theorem gX2_serve_X1_ownerOf : GoodIn wsX2_serve (wsV RX2 158 RX1 yX1_ownerOf wsX1_ownerOf) := goodIn_app (goodIn_of _ (by decide +kernel)) ggX2_serve_X1_ownerOf
set_option maxRecDepth 20000 in
theorem ggX2_serve_X1_sizeOf : GoodIn wsX2_serve wsX1_sizeOf := goodIn_r _ [14, 15, 92, 93, 94, 95, 96, 97, 98, 99, 100, 101, 102, 103] (by decide +kernel) (by decide +kernel)
set_option maxRecDepth 20000 in
theorem gX2_serve_X1_sizeOf : GoodIn wsX2_serve (wsV RX2 161 RX1 yX1_sizeOf wsX1_sizeOf) := goodIn_app (goodIn_of _ (by decide +kernel)) ggX2_serve_X1_sizeOf
set_option maxRecDepth 20000 in
theorem ggX2_serve_X1_firstOf : GoodIn wsX2_serve wsX1_firstOf := goodIn_r _ [19, 20, 92, 93, 94, 95, 96, 97, 98, 99, 100, 101, 102, 103] (by decide +kernel) (by decide +kernel)
set_option maxRecDepth 20000 in
theorem gX2_serve_X1_firstOf : GoodIn wsX2_serve (wsV RX2 164 RX1 yX1_firstOf wsX1_firstOf) := goodIn_app (goodIn_of _ (by decide +kernel)) ggX2_serve_X1_firstOf
set_option maxRecDepth 20000 in
theorem ggX2_serve_X2_moveHead : GoodIn wsX2_serve wsX2_moveHead := goodIn_r _ [25, 26, 27, 28, 29, 30, 31, 32, 84, 85, 86, 87, 88, 89, 90, 91] (by decide +kernel) (by decide +kernel)
set_option maxRecDepth 20000 in
theorem gX2_serve_X2_moveHead : GoodIn wsX2_serve (wsV RX2 167 RX2 yX2_moveHead wsX2_moveHead) := goodIn_app (goodIn_of _ (by decide +kernel)) ggX2_serve_X2_moveHead
set_option maxRecDepth 20000 in
theorem ggX2_serve_X1_markServed : GoodIn wsX2_serve wsX1_markServed := goodIn_r _ [36, 37, 38, 39, 40, 41, 42, 43, 44, 45, 46, 8, 47, 10, 48, 20, 15, 92, 93, 94, 95, 96, 97, 98, 99, 100, 101, 102, 103] (by decide +kernel) (by decide +kernel)
set_option maxRecDepth 20000 in
theorem gX2_serve_X1_markServed : GoodIn wsX2_serve (wsV RX2 170 RX1 yX1_markServed wsX1_markServed) := goodIn_app (goodIn_of _ (by decide +kernel)) ggX2_serve_X1_markServed
set_option maxRecDepth 20000 in
theorem ggX2_serve_X0_noteService : GoodIn wsX2_serve wsX0_noteService := goodIn_r _ [53, 54, 55, 56, 57, 58, 104, 105, 106, 107, 108, 109, 110] (by decide +kernel) (by decide +kernel)
set_option maxRecDepth 20000 in
theorem gX2_serve_X0_noteService : GoodIn wsX2_serve (wsV RX2 173 RX0 yX0_noteService wsX0_noteService) := goodIn_app (goodIn_of _ (by decide +kernel)) ggX2_serve_X0_noteService
set_option maxRecDepth 20000 in
theorem ggX2_serve_X2_takeFromSlice : GoodIn wsX2_serve wsX2_takeFromSlice := goodIn_r _ [62, 63, 2, 3, 64, 65, 66, 52, 67, 57, 68, 69, 70, 24, 71, 84, 85, 86, 87, 88, 89, 90, 91, 104, 105, 106, 107, 108, 109, 110] (by decide +kernel) (by decide +kernel)
set_option maxRecDepth 20000 in
theorem gX2_serve_X2_takeFromSlice : GoodIn wsX2_serve (wsV RX2 176 RX2 yX2_takeFromSlice wsX2_takeFromSlice) := goodIn_app (goodIn_of _ (by decide +kernel)) ggX2_serve_X2_takeFromSlice
set_option maxRecDepth 20000 in
theorem ggX2_serve_X1_waiting : GoodIn wsX2_serve wsX1_waiting := goodIn_r _ [75, 42, 40, 92, 93, 94, 95, 96, 97, 98, 99, 100, 101, 102, 103] (by decide +kernel) (by decide +kernel)
set_option maxRecDepth 20000 in
theorem gX2_serve_X1_waiting : GoodIn wsX2_serve (wsV RX2 134 RX1 yX1_waiting wsX1_waiting) := goodIn_app (goodIn_of _ (by decide +kernel)) ggX2_serve_X1_waiting
set_option maxRecDepth 20000 in
theorem ggX2_serve_X0_greatestTag : GoodIn wsX2_serve wsX0_greatestTag := goodIn_r _ [79, 80, 55, 81, 82, 29, 83, 104, 105, 106, 107, 108, 109, 110] (by decide +kernel) (by decide +kernel)
set_option maxRecDepth 20000 in
theorem gX2_serve_X0_greatestTag : GoodIn wsX2_serve (wsV RX2 179 RX0 yX0_greatestTag wsX0_greatestTag) := goodIn_app (goodIn_of _ (by decide +kernel)) ggX2_serve_X0_greatestTag
theorem dX2_serve_0 : decode cX2_serve 0 = .ok (.aload_n 0, 1) := by decide +kernel
theorem dX2_serve_1 : decode cX2_serve 1 = .ok (.getfield 19, 3) := by decide +kernel
theorem dX2_serve_4 : decode cX2_serve 4 = .ok (.iload_n 1, 1) := by decide +kernel
theorem dX2_serve_5 : decode cX2_serve 5 = .ok (.invokevirtual 158, 3) := by decide +kernel
theorem dX2_serve_8 : decode cX2_serve 8 = .ok (.istore_n 3, 1) := by decide +kernel
theorem dX2_serve_9 : decode cX2_serve 9 = .ok (.aload_n 0, 1) := by decide +kernel
theorem dX2_serve_10 : decode cX2_serve 10 = .ok (.getfield 19, 3) := by decide +kernel
theorem dX2_serve_13 : decode cX2_serve 13 = .ok (.iload_n 1, 1) := by decide +kernel
theorem dX2_serve_14 : decode cX2_serve 14 = .ok (.invokevirtual 161, 3) := by decide +kernel
theorem dX2_serve_17 : decode cX2_serve 17 = .ok (.istore 4, 2) := by decide +kernel
theorem dX2_serve_19 : decode cX2_serve 19 = .ok (.aload_n 0, 1) := by decide +kernel
theorem dX2_serve_20 : decode cX2_serve 20 = .ok (.aload_n 0, 1) := by decide +kernel
theorem dX2_serve_21 : decode cX2_serve 21 = .ok (.getfield 19, 3) := by decide +kernel
theorem dX2_serve_24 : decode cX2_serve 24 = .ok (.iload_n 1, 1) := by decide +kernel
theorem dX2_serve_25 : decode cX2_serve 25 = .ok (.invokevirtual 164, 3) := by decide +kernel
theorem dX2_serve_28 : decode cX2_serve 28 = .ok (.iload 4, 2) := by decide +kernel
theorem dX2_serve_30 : decode cX2_serve 30 = .ok (.invokevirtual 167, 3) := by decide +kernel
theorem dX2_serve_33 : decode cX2_serve 33 = .ok (.aload_n 0, 1) := by decide +kernel
theorem dX2_serve_34 : decode cX2_serve 34 = .ok (.getfield 19, 3) := by decide +kernel
theorem dX2_serve_37 : decode cX2_serve 37 = .ok (.iload_n 1, 1) := by decide +kernel
theorem dX2_serve_38 : decode cX2_serve 38 = .ok (.iload_n 2, 1) := by decide +kernel
theorem dX2_serve_39 : decode cX2_serve 39 = .ok (.invokevirtual 170, 3) := by decide +kernel
theorem dX2_serve_42 : decode cX2_serve 42 = .ok (.aload_n 0, 1) := by decide +kernel
theorem dX2_serve_43 : decode cX2_serve 43 = .ok (.getfield 10, 3) := by decide +kernel
theorem dX2_serve_46 : decode cX2_serve 46 = .ok (.iload_n 3, 1) := by decide +kernel
theorem dX2_serve_47 : decode cX2_serve 47 = .ok (.iload 4, 2) := by decide +kernel
theorem dX2_serve_49 : decode cX2_serve 49 = .ok (.invokevirtual 173, 3) := by decide +kernel
theorem dX2_serve_52 : decode cX2_serve 52 = .ok (.iload_n 3, 1) := by decide +kernel
theorem dX2_serve_53 : decode cX2_serve 53 = .ok (.aload_n 0, 1) := by decide +kernel
theorem dX2_serve_54 : decode cX2_serve 54 = .ok (.getfield 23, 3) := by decide +kernel
theorem dX2_serve_57 : decode cX2_serve 57 = .ok (.if_icmp .ne 9, 3) := by decide +kernel
theorem dX2_serve_60 : decode cX2_serve 60 = .ok (.aload_n 0, 1) := by decide +kernel
theorem dX2_serve_61 : decode cX2_serve 61 = .ok (.iload 4, 2) := by decide +kernel
theorem dX2_serve_63 : decode cX2_serve 63 = .ok (.invokevirtual 176, 3) := by decide +kernel
theorem dX2_serve_66 : decode cX2_serve 66 = .ok (.aload_n 0, 1) := by decide +kernel
theorem dX2_serve_67 : decode cX2_serve 67 = .ok (.getfield 19, 3) := by decide +kernel
theorem dX2_serve_70 : decode cX2_serve 70 = .ok (.invokevirtual 134, 3) := by decide +kernel
theorem dX2_serve_73 : decode cX2_serve 73 = .ok (.ifCond .ne 18, 3) := by decide +kernel
theorem dX2_serve_76 : decode cX2_serve 76 = .ok (.aload_n 0, 1) := by decide +kernel
theorem dX2_serve_77 : decode cX2_serve 77 = .ok (.aload_n 0, 1) := by decide +kernel
theorem dX2_serve_78 : decode cX2_serve 78 = .ok (.getfield 10, 3) := by decide +kernel
theorem dX2_serve_81 : decode cX2_serve 81 = .ok (.aload_n 0, 1) := by decide +kernel
theorem dX2_serve_82 : decode cX2_serve 82 = .ok (.getfield 38, 3) := by decide +kernel
theorem dX2_serve_85 : decode cX2_serve 85 = .ok (.invokevirtual 179, 3) := by decide +kernel
theorem dX2_serve_88 : decode cX2_serve 88 = .ok (.putfield 38, 3) := by decide +kernel
theorem dX2_serve_91 : decode cX2_serve 91 = .ok (.return_, 1) := by decide +kernel
theorem dX2_moveHead_0 : decode cX2_moveHead 0 = .ok (.iload_n 1, 1) := by decide +kernel
theorem dX2_moveHead_1 : decode cX2_moveHead 1 = .ok (.aload_n 0, 1) := by decide +kernel
theorem dX2_moveHead_2 : decode cX2_moveHead 2 = .ok (.getfield 97, 3) := by decide +kernel
theorem dX2_moveHead_5 : decode cX2_moveHead 5 = .ok (.isub, 1) := by decide +kernel
theorem dX2_moveHead_6 : decode cX2_moveHead 6 = .ok (.invokestatic 183, 3) := by decide +kernel
theorem dX2_moveHead_9 : decode cX2_moveHead 9 = .ok (.istore_n 3, 1) := by decide +kernel
theorem dX2_moveHead_10 : decode cX2_moveHead 10 = .ok (.aload_n 0, 1) := by decide +kernel
theorem dX2_moveHead_11 : decode cX2_moveHead 11 = .ok (.dup, 1) := by decide +kernel
theorem dX2_moveHead_12 : decode cX2_moveHead 12 = .ok (.getfield 143, 3) := by decide +kernel
theorem dX2_moveHead_15 : decode cX2_moveHead 15 = .ok (.iload_n 3, 1) := by decide +kernel
theorem dX2_moveHead_16 : decode cX2_moveHead 16 = .ok (.i2l, 1) := by decide +kernel
theorem dX2_moveHead_17 : decode cX2_moveHead 17 = .ok (.ladd, 1) := by decide +kernel
theorem dX2_moveHead_18 : decode cX2_moveHead 18 = .ok (.putfield 143, 3) := by decide +kernel
theorem dX2_moveHead_21 : decode cX2_moveHead 21 = .ok (.aload_n 0, 1) := by decide +kernel
theorem dX2_moveHead_22 : decode cX2_moveHead 22 = .ok (.dup, 1) := by decide +kernel
theorem dX2_moveHead_23 : decode cX2_moveHead 23 = .ok (.getfield 79, 3) := by decide +kernel
theorem dX2_moveHead_26 : decode cX2_moveHead 26 = .ok (.iload_n 3, 1) := by decide +kernel
theorem dX2_moveHead_27 : decode cX2_moveHead 27 = .ok (.bipush 100, 2) := by decide +kernel
theorem dX2_moveHead_29 : decode cX2_moveHead 29 = .ok (.idiv, 1) := by decide +kernel
theorem dX2_moveHead_30 : decode cX2_moveHead 30 = .ok (.iload_n 2, 1) := by decide +kernel
theorem dX2_moveHead_31 : decode cX2_moveHead 31 = .ok (.iadd, 1) := by decide +kernel
theorem dX2_moveHead_32 : decode cX2_moveHead 32 = .ok (.i2l, 1) := by decide +kernel
theorem dX2_moveHead_33 : decode cX2_moveHead 33 = .ok (.ladd, 1) := by decide +kernel
theorem dX2_moveHead_34 : decode cX2_moveHead 34 = .ok (.putfield 79, 3) := by decide +kernel
theorem dX2_moveHead_37 : decode cX2_moveHead 37 = .ok (.aload_n 0, 1) := by decide +kernel
theorem dX2_moveHead_38 : decode cX2_moveHead 38 = .ok (.iload_n 1, 1) := by decide +kernel
theorem dX2_moveHead_39 : decode cX2_moveHead 39 = .ok (.iload_n 2, 1) := by decide +kernel
theorem dX2_moveHead_40 : decode cX2_moveHead 40 = .ok (.iadd, 1) := by decide +kernel
theorem dX2_moveHead_41 : decode cX2_moveHead 41 = .ok (.putfield 97, 3) := by decide +kernel
theorem dX2_moveHead_44 : decode cX2_moveHead 44 = .ok (.return_, 1) := by decide +kernel
set_option maxRecDepth 20000 in
theorem ggX2_takeFromSlice_X0_waitingOf : GoodIn wsX2_takeFromSlice wsX0_waitingOf := goodIn_r _ [8, 9, 23, 24, 25, 26, 27, 28, 29] (by decide +kernel) (by decide +kernel)
set_option maxRecDepth 20000 in
theorem gX2_takeFromSlice_X0_waitingOf : GoodIn wsX2_takeFromSlice (wsV RX2 54 RX0 yX0_waitingOf wsX0_waitingOf) := goodIn_app (goodIn_of _ (by decide +kernel)) ggX2_takeFromSlice_X0_waitingOf
set_option maxRecDepth 20000 in
theorem ggX2_takeFromSlice_X2_endSlice : GoodIn wsX2_takeFromSlice wsX2_endSlice := goodIn_r _ [14, 3, 1, 15, 16, 17, 18, 19, 20, 21, 22] (by decide +kernel) (by decide +kernel)
set_option maxRecDepth 20000 in
theorem gX2_takeFromSlice_X2_endSlice : GoodIn wsX2_takeFromSlice (wsV RX2 64 RX2 yX2_endSlice wsX2_endSlice) := goodIn_app (goodIn_of _ (by decide +kernel)) ggX2_takeFromSlice_X2_endSlice
theorem dX2_takeFromSlice_0 : decode cX2_takeFromSlice 0 = .ok (.aload_n 0, 1) := by decide +kernel
theorem dX2_takeFromSlice_1 : decode cX2_takeFromSlice 1 = .ok (.dup, 1) := by decide +kernel
theorem dX2_takeFromSlice_2 : decode cX2_takeFromSlice 2 = .ok (.getfield 146, 3) := by decide +kernel
theorem dX2_takeFromSlice_5 : decode cX2_takeFromSlice 5 = .ok (.iload_n 1, 1) := by decide +kernel
theorem dX2_takeFromSlice_6 : decode cX2_takeFromSlice 6 = .ok (.isub, 1) := by decide +kernel
theorem dX2_takeFromSlice_7 : decode cX2_takeFromSlice 7 = .ok (.putfield 146, 3) := by decide +kernel
theorem dX2_takeFromSlice_10 : decode cX2_takeFromSlice 10 = .ok (.aload_n 0, 1) := by decide +kernel
theorem dX2_takeFromSlice_11 : decode cX2_takeFromSlice 11 = .ok (.getfield 146, 3) := by decide +kernel
theorem dX2_takeFromSlice_14 : decode cX2_takeFromSlice 14 = .ok (.ifCond .le 17, 3) := by decide +kernel
theorem dX2_takeFromSlice_17 : decode cX2_takeFromSlice 17 = .ok (.aload_n 0, 1) := by decide +kernel
theorem dX2_takeFromSlice_18 : decode cX2_takeFromSlice 18 = .ok (.getfield 10, 3) := by decide +kernel
theorem dX2_takeFromSlice_21 : decode cX2_takeFromSlice 21 = .ok (.aload_n 0, 1) := by decide +kernel
theorem dX2_takeFromSlice_22 : decode cX2_takeFromSlice 22 = .ok (.getfield 23, 3) := by decide +kernel
theorem dX2_takeFromSlice_25 : decode cX2_takeFromSlice 25 = .ok (.invokevirtual 54, 3) := by decide +kernel
theorem dX2_takeFromSlice_28 : decode cX2_takeFromSlice 28 = .ok (.ifCond .ne 7, 3) := by decide +kernel
theorem dX2_takeFromSlice_31 : decode cX2_takeFromSlice 31 = .ok (.aload_n 0, 1) := by decide +kernel
theorem dX2_takeFromSlice_32 : decode cX2_takeFromSlice 32 = .ok (.invokevirtual 64, 3) := by decide +kernel
theorem dX2_takeFromSlice_35 : decode cX2_takeFromSlice 35 = .ok (.return_, 1) := by decide +kernel
theorem dX3_init_0 : decode cX3_init 0 = .ok (.aload_n 0, 1) := by decide +kernel
theorem dX3_init_1 : decode cX3_init 1 = .ok (.invokespecial 1, 3) := by decide +kernel
theorem dX3_init_4 : decode cX3_init 4 = .ok (.aload_n 0, 1) := by decide +kernel
theorem dX3_init_5 : decode cX3_init 5 = .ok (.bipush 8, 2) := by decide +kernel
theorem dX3_init_7 : decode cX3_init 7 = .ok (.newarray .boolean, 2) := by decide +kernel
theorem dX3_init_9 : decode cX3_init 9 = .ok (.putfield 7, 3) := by decide +kernel
theorem dX3_init_12 : decode cX3_init 12 = .ok (.aload_n 0, 1) := by decide +kernel
theorem dX3_init_13 : decode cX3_init 13 = .ok (.bipush 8, 2) := by decide +kernel
theorem dX3_init_15 : decode cX3_init 15 = .ok (.newarray .int, 2) := by decide +kernel
theorem dX3_init_17 : decode cX3_init 17 = .ok (.putfield 13, 3) := by decide +kernel
theorem dX3_init_20 : decode cX3_init 20 = .ok (.aload_n 0, 1) := by decide +kernel
theorem dX3_init_21 : decode cX3_init 21 = .ok (.bipush 8, 2) := by decide +kernel
theorem dX3_init_23 : decode cX3_init 23 = .ok (.newarray .int, 2) := by decide +kernel
theorem dX3_init_25 : decode cX3_init 25 = .ok (.putfield 17, 3) := by decide +kernel
theorem dX3_init_28 : decode cX3_init 28 = .ok (.aload_n 0, 1) := by decide +kernel
theorem dX3_init_29 : decode cX3_init 29 = .ok (.bipush 9, 2) := by decide +kernel
theorem dX3_init_31 : decode cX3_init 31 = .ok (.newarray .long, 2) := by decide +kernel
theorem dX3_init_33 : decode cX3_init 33 = .ok (.putfield 20, 3) := by decide +kernel
theorem dX3_init_36 : decode cX3_init 36 = .ok (.aload_n 0, 1) := by decide +kernel
theorem dX3_init_37 : decode cX3_init 37 = .ok (.bipush 8, 2) := by decide +kernel
theorem dX3_init_39 : decode cX3_init 39 = .ok (.newarray .long, 2) := by decide +kernel
theorem dX3_init_41 : decode cX3_init 41 = .ok (.putfield 24, 3) := by decide +kernel
theorem dX3_init_44 : decode cX3_init 44 = .ok (.aload_n 0, 1) := by decide +kernel
theorem dX3_init_45 : decode cX3_init 45 = .ok (.bipush 8, 2) := by decide +kernel
theorem dX3_init_47 : decode cX3_init 47 = .ok (.newarray .long, 2) := by decide +kernel
theorem dX3_init_49 : decode cX3_init 49 = .ok (.putfield 27, 3) := by decide +kernel
theorem dX3_init_52 : decode cX3_init 52 = .ok (.aload_n 0, 1) := by decide +kernel
theorem dX3_init_53 : decode cX3_init 53 = .ok (.bipush 64, 2) := by decide +kernel
theorem dX3_init_55 : decode cX3_init 55 = .ok (.newarray .long, 2) := by decide +kernel
theorem dX3_init_57 : decode cX3_init 57 = .ok (.putfield 30, 3) := by decide +kernel
theorem dX3_init_60 : decode cX3_init 60 = .ok (.aload_n 0, 1) := by decide +kernel
theorem dX3_init_61 : decode cX3_init 61 = .ok (.sipush 500, 3) := by decide +kernel
theorem dX3_init_64 : decode cX3_init 64 = .ok (.newarray .int, 2) := by decide +kernel
theorem dX3_init_66 : decode cX3_init 66 = .ok (.putfield 33, 3) := by decide +kernel
theorem dX3_init_69 : decode cX3_init 69 = .ok (.aload_n 0, 1) := by decide +kernel
theorem dX3_init_70 : decode cX3_init 70 = .ok (.sipush 500, 3) := by decide +kernel
theorem dX3_init_73 : decode cX3_init 73 = .ok (.newarray .int, 2) := by decide +kernel
theorem dX3_init_75 : decode cX3_init 75 = .ok (.putfield 36, 3) := by decide +kernel
theorem dX3_init_78 : decode cX3_init 78 = .ok (.aload_n 0, 1) := by decide +kernel
theorem dX3_init_79 : decode cX3_init 79 = .ok (.sipush 500, 3) := by decide +kernel
theorem dX3_init_82 : decode cX3_init 82 = .ok (.newarray .int, 2) := by decide +kernel
theorem dX3_init_84 : decode cX3_init 84 = .ok (.putfield 39, 3) := by decide +kernel
theorem dX3_init_87 : decode cX3_init 87 = .ok (.aload_n 0, 1) := by decide +kernel
theorem dX3_init_88 : decode cX3_init 88 = .ok (.sipush 500, 3) := by decide +kernel
theorem dX3_init_91 : decode cX3_init 91 = .ok (.newarray .int, 2) := by decide +kernel
theorem dX3_init_93 : decode cX3_init 93 = .ok (.putfield 42, 3) := by decide +kernel
theorem dX3_init_96 : decode cX3_init 96 = .ok (.aload_n 0, 1) := by decide +kernel
theorem dX3_init_97 : decode cX3_init 97 = .ok (.sipush 500, 3) := by decide +kernel
theorem dX3_init_100 : decode cX3_init 100 = .ok (.newarray .boolean, 2) := by decide +kernel
theorem dX3_init_102 : decode cX3_init 102 = .ok (.putfield 45, 3) := by decide +kernel
theorem dX3_init_105 : decode cX3_init 105 = .ok (.aload_n 0, 1) := by decide +kernel
theorem dX3_init_106 : decode cX3_init 106 = .ok (.sipush 500, 3) := by decide +kernel
theorem dX3_init_109 : decode cX3_init 109 = .ok (.newarray .boolean, 2) := by decide +kernel
theorem dX3_init_111 : decode cX3_init 111 = .ok (.putfield 48, 3) := by decide +kernel
theorem dX3_init_114 : decode cX3_init 114 = .ok (.aload_n 0, 1) := by decide +kernel
theorem dX3_init_115 : decode cX3_init 115 = .ok (.sipush 500, 3) := by decide +kernel
theorem dX3_init_118 : decode cX3_init 118 = .ok (.newarray .boolean, 2) := by decide +kernel
theorem dX3_init_120 : decode cX3_init 120 = .ok (.putfield 51, 3) := by decide +kernel
theorem dX3_init_123 : decode cX3_init 123 = .ok (.aload_n 0, 1) := by decide +kernel
theorem dX3_init_124 : decode cX3_init 124 = .ok (.sipush 500, 3) := by decide +kernel
theorem dX3_init_127 : decode cX3_init 127 = .ok (.newarray .long, 2) := by decide +kernel
theorem dX3_init_129 : decode cX3_init 129 = .ok (.putfield 54, 3) := by decide +kernel
theorem dX3_init_132 : decode cX3_init 132 = .ok (.aload_n 0, 1) := by decide +kernel
theorem dX3_init_133 : decode cX3_init 133 = .ok (.iconst (-1), 1) := by decide +kernel
theorem dX3_init_134 : decode cX3_init 134 = .ok (.putfield 57, 3) := by decide +kernel
theorem dX3_init_137 : decode cX3_init 137 = .ok (.return_, 1) := by decide +kernel
theorem dX3_thrown_0 : decode cX3_thrown 0 = .ok (.aload_n 0, 1) := by decide +kernel
theorem dX3_thrown_1 : decode cX3_thrown 1 = .ok (.getfield 61, 3) := by decide +kernel
theorem dX3_thrown_4 : decode cX3_thrown 4 = .ok (.ireturn, 1) := by decide +kernel
theorem dX3_fails_0 : decode cX3_fails 0 = .ok (.aload_n 0, 1) := by decide +kernel
theorem dX3_fails_1 : decode cX3_fails 1 = .ok (.iload_n 1, 1) := by decide +kernel
theorem dX3_fails_2 : decode cX3_fails 2 = .ok (.ifCond .eq 7, 3) := by decide +kernel
theorem dX3_fails_5 : decode cX3_fails 5 = .ok (.iconst 1, 1) := by decide +kernel
theorem dX3_fails_6 : decode cX3_fails 6 = .ok (.goto 12, 3) := by decide +kernel
theorem dX3_fails_9 : decode cX3_fails 9 = .ok (.iload_n 2, 1) := by decide +kernel
theorem dX3_fails_10 : decode cX3_fails 10 = .ok (.ifCond .eq 7, 3) := by decide +kernel
theorem dX3_fails_13 : decode cX3_fails 13 = .ok (.iconst 2, 1) := by decide +kernel
theorem dX3_fails_14 : decode cX3_fails 14 = .ok (.goto 4, 3) := by decide +kernel
theorem dX3_fails_17 : decode cX3_fails 17 = .ok (.iconst 0, 1) := by decide +kernel
theorem dX3_fails_18 : decode cX3_fails 18 = .ok (.putfield 61, 3) := by decide +kernel
theorem dX3_fails_21 : decode cX3_fails 21 = .ok (.aload_n 0, 1) := by decide +kernel
theorem dX3_fails_22 : decode cX3_fails 22 = .ok (.getfield 61, 3) := by decide +kernel
theorem dX3_fails_25 : decode cX3_fails 25 = .ok (.ifCond .le 7, 3) := by decide +kernel
theorem dX3_fails_28 : decode cX3_fails 28 = .ok (.iconst 1, 1) := by decide +kernel
theorem dX3_fails_29 : decode cX3_fails 29 = .ok (.goto 4, 3) := by decide +kernel
theorem dX3_fails_32 : decode cX3_fails 32 = .ok (.iconst 0, 1) := by decide +kernel
theorem dX3_fails_33 : decode cX3_fails 33 = .ok (.ireturn, 1) := by decide +kernel
theorem dX3_in_0 : decode cX3_in 0 = .ok (.lload_n 0, 1) := by decide +kernel
theorem dX3_in_1 : decode cX3_in 1 = .ok (.lload_n 2, 1) := by decide +kernel
theorem dX3_in_2 : decode cX3_in 2 = .ok (.lcmp, 1) := by decide +kernel
theorem dX3_in_3 : decode cX3_in 3 = .ok (.ifCond .lt 14, 3) := by decide +kernel
theorem dX3_in_6 : decode cX3_in 6 = .ok (.lload_n 0, 1) := by decide +kernel
theorem dX3_in_7 : decode cX3_in 7 = .ok (.lload 4, 2) := by decide +kernel
theorem dX3_in_9 : decode cX3_in 9 = .ok (.lcmp, 1) := by decide +kernel
theorem dX3_in_10 : decode cX3_in 10 = .ok (.ifCond .gt 7, 3) := by decide +kernel
theorem dX3_in_13 : decode cX3_in 13 = .ok (.iconst 1, 1) := by decide +kernel
theorem dX3_in_14 : decode cX3_in 14 = .ok (.goto 4, 3) := by decide +kernel
theorem dX3_in_17 : decode cX3_in 17 = .ok (.iconst 0, 1) := by decide +kernel
theorem dX3_in_18 : decode cX3_in 18 = .ok (.ireturn, 1) := by decide +kernel
set_option maxRecDepth 20000 in
theorem ggX3_isThere_X3_in : GoodIn wsX3_isThere wsX3_in := goodIn_r _ [6] (by decide +kernel) (by decide +kernel)
set_option maxRecDepth 20000 in
theorem gX3_isThere_X3_in : GoodIn wsX3_isThere (va_wsS RX3 66 yX3_in wsX3_in) := goodIn_app (goodIn_of _ (by decide +kernel)) ggX3_isThere_X3_in
theorem dX3_isThere_0 : decode cX3_isThere 0 = .ok (.iload_n 1, 1) := by decide +kernel
theorem dX3_isThere_1 : decode cX3_isThere 1 = .ok (.i2l, 1) := by decide +kernel
theorem dX3_isThere_2 : decode cX3_isThere 2 = .ok (.lconst 0, 1) := by decide +kernel
theorem dX3_isThere_3 : decode cX3_isThere 3 = .ok (.ldc2_w 64, 3) := by decide +kernel
theorem dX3_isThere_6 : decode cX3_isThere 6 = .ok (.invokestatic 66, 3) := by decide +kernel
theorem dX3_isThere_9 : decode cX3_isThere 9 = .ok (.ifCond .eq 16, 3) := by decide +kernel
theorem dX3_isThere_12 : decode cX3_isThere 12 = .ok (.aload_n 0, 1) := by decide +kernel
theorem dX3_isThere_13 : decode cX3_isThere 13 = .ok (.getfield 7, 3) := by decide +kernel
theorem dX3_isThere_16 : decode cX3_isThere 16 = .ok (.iload_n 1, 1) := by decide +kernel
theorem dX3_isThere_17 : decode cX3_isThere 17 = .ok (.baload, 1) := by decide +kernel
theorem dX3_isThere_18 : decode cX3_isThere 18 = .ok (.ifCond .eq 7, 3) := by decide +kernel
theorem dX3_isThere_21 : decode cX3_isThere 21 = .ok (.iconst 1, 1) := by decide +kernel
theorem dX3_isThere_22 : decode cX3_isThere 22 = .ok (.goto 4, 3) := by decide +kernel
theorem dX3_isThere_25 : decode cX3_isThere 25 = .ok (.iconst 0, 1) := by decide +kernel
theorem dX3_isThere_26 : decode cX3_isThere 26 = .ok (.ireturn, 1) := by decide +kernel
theorem dX3_waiting_0 : decode cX3_waiting 0 = .ok (.iconst 0, 1) := by decide +kernel
theorem dX3_waiting_1 : decode cX3_waiting 1 = .ok (.istore_n 2, 1) := by decide +kernel
theorem dX3_waiting_2 : decode cX3_waiting 2 = .ok (.iconst 0, 1) := by decide +kernel
theorem dX3_waiting_3 : decode cX3_waiting 3 = .ok (.istore_n 3, 1) := by decide +kernel
theorem dX3_waiting_4 : decode cX3_waiting 4 = .ok (.iload_n 3, 1) := by decide +kernel
theorem dX3_waiting_5 : decode cX3_waiting 5 = .ok (.aload_n 0, 1) := by decide +kernel
theorem dX3_waiting_6 : decode cX3_waiting 6 = .ok (.getfield 70, 3) := by decide +kernel
theorem dX3_waiting_9 : decode cX3_waiting 9 = .ok (.if_icmp .ge 36, 3) := by decide +kernel
theorem dX3_waiting_12 : decode cX3_waiting 12 = .ok (.iload_n 2, 1) := by decide +kernel
theorem dX3_waiting_13 : decode cX3_waiting 13 = .ok (.aload_n 0, 1) := by decide +kernel
theorem dX3_waiting_14 : decode cX3_waiting 14 = .ok (.getfield 48, 3) := by decide +kernel
theorem dX3_waiting_17 : decode cX3_waiting 17 = .ok (.iload_n 3, 1) := by decide +kernel
theorem dX3_waiting_18 : decode cX3_waiting 18 = .ok (.baload, 1) := by decide +kernel
theorem dX3_waiting_19 : decode cX3_waiting 19 = .ok (.ifCond .ne 17, 3) := by decide +kernel
theorem dX3_waiting_22 : decode cX3_waiting 22 = .ok (.aload_n 0, 1) := by decide +kernel
theorem dX3_waiting_23 : decode cX3_waiting 23 = .ok (.getfield 33, 3) := by decide +kernel
theorem dX3_waiting_26 : decode cX3_waiting 26 = .ok (.iload_n 3, 1) := by decide +kernel
theorem dX3_waiting_27 : decode cX3_waiting 27 = .ok (.iaload, 1) := by decide +kernel
theorem dX3_waiting_28 : decode cX3_waiting 28 = .ok (.iload_n 1, 1) := by decide +kernel
theorem dX3_waiting_29 : decode cX3_waiting 29 = .ok (.if_icmp .ne 7, 3) := by decide +kernel
theorem dX3_waiting_32 : decode cX3_waiting 32 = .ok (.iconst 1, 1) := by decide +kernel
theorem dX3_waiting_33 : decode cX3_waiting 33 = .ok (.goto 4, 3) := by decide +kernel
theorem dX3_waiting_36 : decode cX3_waiting 36 = .ok (.iconst 0, 1) := by decide +kernel
theorem dX3_waiting_37 : decode cX3_waiting 37 = .ok (.iadd, 1) := by decide +kernel
theorem dX3_waiting_38 : decode cX3_waiting 38 = .ok (.istore_n 2, 1) := by decide +kernel
theorem dX3_waiting_39 : decode cX3_waiting 39 = .ok (.iinc 3 1, 3) := by decide +kernel
theorem dX3_waiting_42 : decode cX3_waiting 42 = .ok (.goto (-38), 3) := by decide +kernel
theorem dX3_waiting_45 : decode cX3_waiting 45 = .ok (.iload_n 2, 1) := by decide +kernel
theorem dX3_waiting_46 : decode cX3_waiting 46 = .ok (.ireturn, 1) := by decide +kernel
set_option maxRecDepth 20000 in
theorem ggX3_client_X3_in : GoodIn wsX3_client wsX3_in := goodIn_r _ [12] (by decide +kernel) (by decide +kernel)
set_option maxRecDepth 20000 in
theorem gX3_client_X3_in : GoodIn wsX3_client (va_wsS RX3 66 yX3_in wsX3_in) := goodIn_app (goodIn_of _ (by decide +kernel)) ggX3_client_X3_in
set_option maxRecDepth 20000 in
theorem ggX3_client_X3_fails : GoodIn wsX3_client wsX3_fails := goodIn_r _ [16, 17, 18, 19, 20, 21, 22, 23, 24, 25, 26, 27, 28, 29, 30, 31, 32, 33, 34, 35, 36, 37, 38, 39, 40, 41] (by decide +kernel) (by decide +kernel)
set_option maxRecDepth 20000 in
theorem gX3_client_X3_fails : GoodIn wsX3_client (wsV RX3 77 RX3 yX3_fails wsX3_fails) := goodIn_app (goodIn_of _ (by decide +kernel)) ggX3_client_X3_fails
theorem dX3_client_0 : decode cX3_client 0 = .ok (.aload_n 0, 1) := by decide +kernel
theorem dX3_client_1 : decode cX3_client 1 = .ok (.iload_n 1, 1) := by decide +kernel
theorem dX3_client_2 : decode cX3_client 2 = .ok (.i2l, 1) := by decide +kernel
theorem dX3_client_3 : decode cX3_client 3 = .ok (.lconst 0, 1) := by decide +kernel
theorem dX3_client_4 : decode cX3_client 4 = .ok (.ldc2_w 64, 3) := by decide +kernel
theorem dX3_client_7 : decode cX3_client 7 = .ok (.invokestatic 66, 3) := by decide +kernel
theorem dX3_client_10 : decode cX3_client 10 = .ok (.ifCond .eq 27, 3) := by decide +kernel
theorem dX3_client_13 : decode cX3_client 13 = .ok (.iload_n 2, 1) := by decide +kernel
theorem dX3_client_14 : decode cX3_client 14 = .ok (.i2l, 1) := by decide +kernel
theorem dX3_client_15 : decode cX3_client 15 = .ok (.lconst 1, 1) := by decide +kernel
theorem dX3_client_16 : decode cX3_client 16 = .ok (.ldc2_w 73, 3) := by decide +kernel
theorem dX3_client_19 : decode cX3_client 19 = .ok (.invokestatic 66, 3) := by decide +kernel
theorem dX3_client_22 : decode cX3_client 22 = .ok (.ifCond .eq 15, 3) := by decide +kernel
theorem dX3_client_25 : decode cX3_client 25 = .ok (.iload_n 3, 1) := by decide +kernel
theorem dX3_client_26 : decode cX3_client 26 = .ok (.i2l, 1) := by decide +kernel
theorem dX3_client_27 : decode cX3_client 27 = .ok (.lconst 1, 1) := by decide +kernel
theorem dX3_client_28 : decode cX3_client 28 = .ok (.ldc2_w 75, 3) := by decide +kernel
theorem dX3_client_31 : decode cX3_client 31 = .ok (.invokestatic 66, 3) := by decide +kernel
theorem dX3_client_34 : decode cX3_client 34 = .ok (.ifCond .ne 7, 3) := by decide +kernel
theorem dX3_client_37 : decode cX3_client 37 = .ok (.iconst 1, 1) := by decide +kernel
theorem dX3_client_38 : decode cX3_client 38 = .ok (.goto 4, 3) := by decide +kernel
theorem dX3_client_41 : decode cX3_client 41 = .ok (.iconst 0, 1) := by decide +kernel
theorem dX3_client_42 : decode cX3_client 42 = .ok (.iconst 0, 1) := by decide +kernel
theorem dX3_client_43 : decode cX3_client 43 = .ok (.invokevirtual 77, 3) := by decide +kernel
theorem dX3_client_46 : decode cX3_client 46 = .ok (.ifCond .eq 4, 3) := by decide +kernel
theorem dX3_client_49 : decode cX3_client 49 = .ok (.return_, 1) := by decide +kernel
theorem dX3_client_50 : decode cX3_client 50 = .ok (.aload_n 0, 1) := by decide +kernel
theorem dX3_client_51 : decode cX3_client 51 = .ok (.getfield 7, 3) := by decide +kernel
theorem dX3_client_54 : decode cX3_client 54 = .ok (.iload_n 1, 1) := by decide +kernel
theorem dX3_client_55 : decode cX3_client 55 = .ok (.baload, 1) := by decide +kernel
theorem dX3_client_56 : decode cX3_client 56 = .ok (.ifCond .ne 23, 3) := by decide +kernel
theorem dX3_client_59 : decode cX3_client 59 = .ok (.aload_n 0, 1) := by decide +kernel
theorem dX3_client_60 : decode cX3_client 60 = .ok (.getfield 20, 3) := by decide +kernel
theorem dX3_client_63 : decode cX3_client 63 = .ok (.iload_n 1, 1) := by decide +kernel
theorem dX3_client_64 : decode cX3_client 64 = .ok (.aload_n 0, 1) := by decide +kernel
theorem dX3_client_65 : decode cX3_client 65 = .ok (.getfield 20, 3) := by decide +kernel
theorem dX3_client_68 : decode cX3_client 68 = .ok (.bipush 8, 2) := by decide +kernel
theorem dX3_client_70 : decode cX3_client 70 = .ok (.laload, 1) := by decide +kernel
theorem dX3_client_71 : decode cX3_client 71 = .ok (.lastore, 1) := by decide +kernel
theorem dX3_client_72 : decode cX3_client 72 = .ok (.aload_n 0, 1) := by decide +kernel
theorem dX3_client_73 : decode cX3_client 73 = .ok (.getfield 24, 3) := by decide +kernel
theorem dX3_client_76 : decode cX3_client 76 = .ok (.iload_n 1, 1) := by decide +kernel
theorem dX3_client_77 : decode cX3_client 77 = .ok (.lconst 0, 1) := by decide +kernel
theorem dX3_client_78 : decode cX3_client 78 = .ok (.lastore, 1) := by decide +kernel
theorem dX3_client_79 : decode cX3_client 79 = .ok (.aload_n 0, 1) := by decide +kernel
theorem dX3_client_80 : decode cX3_client 80 = .ok (.getfield 7, 3) := by decide +kernel
theorem dX3_client_83 : decode cX3_client 83 = .ok (.iload_n 1, 1) := by decide +kernel
theorem dX3_client_84 : decode cX3_client 84 = .ok (.iconst 1, 1) := by decide +kernel
theorem dX3_client_85 : decode cX3_client 85 = .ok (.bastore, 1) := by decide +kernel
theorem dX3_client_86 : decode cX3_client 86 = .ok (.aload_n 0, 1) := by decide +kernel
theorem dX3_client_87 : decode cX3_client 87 = .ok (.getfield 13, 3) := by decide +kernel
theorem dX3_client_90 : decode cX3_client 90 = .ok (.iload_n 1, 1) := by decide +kernel
theorem dX3_client_91 : decode cX3_client 91 = .ok (.iload_n 2, 1) := by decide +kernel
theorem dX3_client_92 : decode cX3_client 92 = .ok (.iastore, 1) := by decide +kernel
theorem dX3_client_93 : decode cX3_client 93 = .ok (.aload_n 0, 1) := by decide +kernel
theorem dX3_client_94 : decode cX3_client 94 = .ok (.getfield 17, 3) := by decide +kernel
theorem dX3_client_97 : decode cX3_client 97 = .ok (.iload_n 1, 1) := by decide +kernel
theorem dX3_client_98 : decode cX3_client 98 = .ok (.iload_n 3, 1) := by decide +kernel
theorem dX3_client_99 : decode cX3_client 99 = .ok (.iastore, 1) := by decide +kernel
theorem dX3_client_100 : decode cX3_client 100 = .ok (.return_, 1) := by decide +kernel
set_option maxRecDepth 20000 in
theorem ggX3_gone_X3_isThere : GoodIn wsX3_gone wsX3_isThere := goodIn_r _ [8, 9, 1, 10, 11, 7, 12, 30, 31, 32, 33, 34, 35, 36, 37, 38, 39, 40, 41, 42, 43, 44, 45, 46, 47, 48, 49, 50, 51, 52, 53] (by decide +kernel) (by decide +kernel)
set_option maxRecDepth 20000 in
theorem gX3_gone_X3_isThere : GoodIn wsX3_gone (wsV RX3 81 RX3 yX3_isThere wsX3_isThere) := goodIn_app (goodIn_of _ (by decide +kernel)) ggX3_gone_X3_isThere
set_option maxRecDepth 20000 in
theorem ggX3_gone_X3_waiting : GoodIn wsX3_gone wsX3_waiting := goodIn_r _ [16, 17, 18, 19, 30, 31, 32, 33, 34, 35, 36, 37, 38, 39, 40, 41, 42, 43, 44, 45, 46, 47, 48, 49, 50, 51, 52, 53] (by decide +kernel) (by decide +kernel)
set_option maxRecDepth 20000 in
theorem gX3_gone_X3_waiting : GoodIn wsX3_gone (wsV RX3 85 RX3 yX3_waiting wsX3_waiting) := goodIn_app (goodIn_of _ (by decide +kernel)) ggX3_gone_X3_waiting
set_option maxRecDepth 20000 in
theorem ggX3_gone_X3_fails : GoodIn wsX3_gone wsX3_fails := goodIn_r _ [23, 24, 30, 31, 32, 33, 34, 35, 36, 37, 38, 39, 40, 41, 42, 43, 44, 45, 46, 47, 48, 49, 50, 51, 52, 53] (by decide +kernel) (by decide +kernel)
set_option maxRecDepth 20000 in
theorem gX3_gone_X3_fails : GoodIn wsX3_gone (wsV RX3 77 RX3 yX3_fails wsX3_fails) := goodIn_app (goodIn_of _ (by decide +kernel)) ggX3_gone_X3_fails
set_option maxRecDepth 20000 in
theorem ggX3_gone_X3_end : GoodIn wsX3_gone wsX3_end := goodIn_r _ [28, 3, 29, 30, 31, 32, 33, 34, 35, 36, 37, 38, 39, 40, 41, 42, 43, 44, 45, 46, 47, 48, 49, 50, 51, 52, 53] (by decide +kernel) (by decide +kernel)
set_option maxRecDepth 20000 in
theorem gX3_gone_X3_end : GoodIn wsX3_gone (wsV RX3 89 RX3 yX3_end wsX3_end) := goodIn_app (goodIn_of _ (by decide +kernel)) ggX3_gone_X3_end
theorem dX3_gone_0 : decode cX3_gone 0 = .ok (.aload_n 0, 1) := by decide +kernel
theorem dX3_gone_1 : decode cX3_gone 1 = .ok (.aload_n 0, 1) := by decide +kernel
theorem dX3_gone_2 : decode cX3_gone 2 = .ok (.iload_n 1, 1) := by decide +kernel
theorem dX3_gone_3 : decode cX3_gone 3 = .ok (.invokevirtual 81, 3) := by decide +kernel
theorem dX3_gone_6 : decode cX3_gone 6 = .ok (.ifCond .ne 7, 3) := by decide +kernel
theorem dX3_gone_9 : decode cX3_gone 9 = .ok (.iconst 1, 1) := by decide +kernel
theorem dX3_gone_10 : decode cX3_gone 10 = .ok (.goto 4, 3) := by decide +kernel
theorem dX3_gone_13 : decode cX3_gone 13 = .ok (.iconst 0, 1) := by decide +kernel
theorem dX3_gone_14 : decode cX3_gone 14 = .ok (.aload_n 0, 1) := by decide +kernel
theorem dX3_gone_15 : decode cX3_gone 15 = .ok (.iload_n 1, 1) := by decide +kernel
theorem dX3_gone_16 : decode cX3_gone 16 = .ok (.invokevirtual 81, 3) := by decide +kernel
theorem dX3_gone_19 : decode cX3_gone 19 = .ok (.ifCond .eq 15, 3) := by decide +kernel
theorem dX3_gone_22 : decode cX3_gone 22 = .ok (.aload_n 0, 1) := by decide +kernel
theorem dX3_gone_23 : decode cX3_gone 23 = .ok (.iload_n 1, 1) := by decide +kernel
theorem dX3_gone_24 : decode cX3_gone 24 = .ok (.invokevirtual 85, 3) := by decide +kernel
theorem dX3_gone_27 : decode cX3_gone 27 = .ok (.ifCond .le 7, 3) := by decide +kernel
theorem dX3_gone_30 : decode cX3_gone 30 = .ok (.iconst 1, 1) := by decide +kernel
theorem dX3_gone_31 : decode cX3_gone 31 = .ok (.goto 4, 3) := by decide +kernel
theorem dX3_gone_34 : decode cX3_gone 34 = .ok (.iconst 0, 1) := by decide +kernel
theorem dX3_gone_35 : decode cX3_gone 35 = .ok (.invokevirtual 77, 3) := by decide +kernel
theorem dX3_gone_38 : decode cX3_gone 38 = .ok (.ifCond .eq 4, 3) := by decide +kernel
theorem dX3_gone_41 : decode cX3_gone 41 = .ok (.return_, 1) := by decide +kernel
theorem dX3_gone_42 : decode cX3_gone 42 = .ok (.aload_n 0, 1) := by decide +kernel
theorem dX3_gone_43 : decode cX3_gone 43 = .ok (.getfield 7, 3) := by decide +kernel
theorem dX3_gone_46 : decode cX3_gone 46 = .ok (.iload_n 1, 1) := by decide +kernel
theorem dX3_gone_47 : decode cX3_gone 47 = .ok (.iconst 0, 1) := by decide +kernel
theorem dX3_gone_48 : decode cX3_gone 48 = .ok (.bastore, 1) := by decide +kernel
theorem dX3_gone_49 : decode cX3_gone 49 = .ok (.aload_n 0, 1) := by decide +kernel
theorem dX3_gone_50 : decode cX3_gone 50 = .ok (.getfield 24, 3) := by decide +kernel
theorem dX3_gone_53 : decode cX3_gone 53 = .ok (.iload_n 1, 1) := by decide +kernel
theorem dX3_gone_54 : decode cX3_gone 54 = .ok (.lconst 0, 1) := by decide +kernel
theorem dX3_gone_55 : decode cX3_gone 55 = .ok (.lastore, 1) := by decide +kernel
theorem dX3_gone_56 : decode cX3_gone 56 = .ok (.aload_n 0, 1) := by decide +kernel
theorem dX3_gone_57 : decode cX3_gone 57 = .ok (.getfield 57, 3) := by decide +kernel
theorem dX3_gone_60 : decode cX3_gone 60 = .ok (.iload_n 1, 1) := by decide +kernel
theorem dX3_gone_61 : decode cX3_gone 61 = .ok (.if_icmp .ne 7, 3) := by decide +kernel
theorem dX3_gone_64 : decode cX3_gone 64 = .ok (.aload_n 0, 1) := by decide +kernel
theorem dX3_gone_65 : decode cX3_gone 65 = .ok (.invokevirtual 89, 3) := by decide +kernel
theorem dX3_gone_68 : decode cX3_gone 68 = .ok (.return_, 1) := by decide +kernel
theorem dX3_end_0 : decode cX3_end 0 = .ok (.aload_n 0, 1) := by decide +kernel
theorem dX3_end_1 : decode cX3_end 1 = .ok (.iconst (-1), 1) := by decide +kernel
theorem dX3_end_2 : decode cX3_end 2 = .ok (.putfield 57, 3) := by decide +kernel
theorem dX3_end_5 : decode cX3_end 5 = .ok (.aload_n 0, 1) := by decide +kernel
theorem dX3_end_6 : decode cX3_end 6 = .ok (.iconst 0, 1) := by decide +kernel
theorem dX3_end_7 : decode cX3_end 7 = .ok (.putfield 92, 3) := by decide +kernel
theorem dX3_end_10 : decode cX3_end 10 = .ok (.return_, 1) := by decide +kernel
set_option maxRecDepth 20000 in
theorem ggX3_submit_X3_isThere : GoodIn wsX3_submit wsX3_isThere := goodIn_r _ [16, 17, 18, 19, 20, 15, 21, 39, 40, 41, 42, 43, 44, 45, 46, 47, 48, 49, 50, 51, 52, 53, 54, 55, 56, 57, 58, 59, 60, 61, 62] (by decide +kernel) (by decide +kernel)
set_option maxRecDepth 20000 in
theorem gX3_submit_X3_isThere : GoodIn wsX3_submit (wsV RX3 81 RX3 yX3_isThere wsX3_isThere) := goodIn_app (goodIn_of _ (by decide +kernel)) ggX3_submit_X3_isThere
set_option maxRecDepth 20000 in
theorem ggX3_submit_X3_in : GoodIn wsX3_submit wsX3_in := goodIn_r _ [21] (by decide +kernel) (by decide +kernel)
set_option maxRecDepth 20000 in
theorem gX3_submit_X3_in : GoodIn wsX3_submit (va_wsS RX3 66 yX3_in wsX3_in) := goodIn_app (goodIn_of _ (by decide +kernel)) ggX3_submit_X3_in
set_option maxRecDepth 20000 in
theorem ggX3_submit_X3_fails : GoodIn wsX3_submit wsX3_fails := goodIn_r _ [25, 26, 39, 40, 41, 42, 43, 44, 45, 46, 47, 48, 49, 50, 51, 52, 53, 54, 55, 56, 57, 58, 59, 60, 61, 62] (by decide +kernel) (by decide +kernel)
set_option maxRecDepth 20000 in
theorem gX3_submit_X3_fails : GoodIn wsX3_submit (wsV RX3 77 RX3 yX3_fails wsX3_fails) := goodIn_app (goodIn_of _ (by decide +kernel)) ggX3_submit_X3_fails
set_option maxRecDepth 20000 in
theorem ggX3_submit_X3_waiting : GoodIn wsX3_submit wsX3_waiting := goodIn_r _ [30, 5, 31, 6, 39, 40, 41, 42, 43, 44, 45, 46, 47, 48, 49, 50, 51, 52, 53, 54, 55, 56, 57, 58, 59, 60, 61, 62] (by decide +kernel) (by decide +kernel)
set_option maxRecDepth 20000 in
theorem gX3_submit_X3_waiting : GoodIn wsX3_submit (wsV RX3 85 RX3 yX3_waiting wsX3_waiting) := goodIn_app (goodIn_of _ (by decide +kernel)) ggX3_submit_X3_waiting
set_option maxRecDepth 20000 in
theorem ggX3_submit_X3_begin : GoodIn wsX3_submit wsX3_begin := goodIn_r _ [35, 36, 37, 38, 39, 40, 41, 42, 43, 44, 45, 46, 47, 48, 49, 50, 51, 52, 53, 54, 55, 56, 57, 58, 59, 60, 61, 62] (by decide +kernel) (by decide +kernel)
set_option maxRecDepth 20000 in
theorem gX3_submit_X3_begin : GoodIn wsX3_submit (wsV RX3 103 RX3 yX3_begin wsX3_begin) := goodIn_app (goodIn_of _ (by decide +kernel)) ggX3_submit_X3_begin
theorem dX3_submit_0 : decode cX3_submit 0 = .ok (.aload_n 0, 1) := by decide +kernel
theorem dX3_submit_1 : decode cX3_submit 1 = .ok (.iload_n 1, 1) := by decide +kernel
theorem dX3_submit_2 : decode cX3_submit 2 = .ok (.invokevirtual 81, 3) := by decide +kernel
theorem dX3_submit_5 : decode cX3_submit 5 = .ok (.ifCond .eq 58, 3) := by decide +kernel
theorem dX3_submit_8 : decode cX3_submit 8 = .ok (.iload_n 3, 1) := by decide +kernel
theorem dX3_submit_9 : decode cX3_submit 9 = .ok (.i2l, 1) := by decide +kernel
theorem dX3_submit_10 : decode cX3_submit 10 = .ok (.lconst 0, 1) := by decide +kernel
theorem dX3_submit_11 : decode cX3_submit 11 = .ok (.ldc2_w 95, 3) := by decide +kernel
theorem dX3_submit_14 : decode cX3_submit 14 = .ok (.invokestatic 66, 3) := by decide +kernel
theorem dX3_submit_17 : decode cX3_submit 17 = .ok (.ifCond .eq 46, 3) := by decide +kernel
theorem dX3_submit_20 : decode cX3_submit 20 = .ok (.iload 4, 2) := by decide +kernel
theorem dX3_submit_22 : decode cX3_submit 22 = .ok (.i2l, 1) := by decide +kernel
theorem dX3_submit_23 : decode cX3_submit 23 = .ok (.lconst 1, 1) := by decide +kernel
theorem dX3_submit_24 : decode cX3_submit 24 = .ok (.ldc2_w 97, 3) := by decide +kernel
theorem dX3_submit_27 : decode cX3_submit 27 = .ok (.invokestatic 66, 3) := by decide +kernel
theorem dX3_submit_30 : decode cX3_submit 30 = .ok (.ifCond .eq 33, 3) := by decide +kernel
theorem dX3_submit_33 : decode cX3_submit 33 = .ok (.iload_n 3, 1) := by decide +kernel
theorem dX3_submit_34 : decode cX3_submit 34 = .ok (.i2l, 1) := by decide +kernel
theorem dX3_submit_35 : decode cX3_submit 35 = .ok (.iload 4, 2) := by decide +kernel
theorem dX3_submit_37 : decode cX3_submit 37 = .ok (.i2l, 1) := by decide +kernel
theorem dX3_submit_38 : decode cX3_submit 38 = .ok (.ladd, 1) := by decide +kernel
theorem dX3_submit_39 : decode cX3_submit 39 = .ok (.ldc2_w 99, 3) := by decide +kernel
theorem dX3_submit_42 : decode cX3_submit 42 = .ok (.lcmp, 1) := by decide +kernel
theorem dX3_submit_43 : decode cX3_submit 43 = .ok (.ifCond .gt 20, 3) := by decide +kernel
theorem dX3_submit_46 : decode cX3_submit 46 = .ok (.iload 5, 2) := by decide +kernel
theorem dX3_submit_48 : decode cX3_submit 48 = .ok (.i2l, 1) := by decide +kernel
theorem dX3_submit_49 : decode cX3_submit 49 = .ok (.lconst 0, 1) := by decide +kernel
theorem dX3_submit_50 : decode cX3_submit 50 = .ok (.ldc2_w 101, 3) := by decide +kernel
theorem dX3_submit_53 : decode cX3_submit 53 = .ok (.invokestatic 66, 3) := by decide +kernel
theorem dX3_submit_56 : decode cX3_submit 56 = .ok (.ifCond .eq 7, 3) := by decide +kernel
theorem dX3_submit_59 : decode cX3_submit 59 = .ok (.iconst 1, 1) := by decide +kernel
theorem dX3_submit_60 : decode cX3_submit 60 = .ok (.goto 4, 3) := by decide +kernel
theorem dX3_submit_63 : decode cX3_submit 63 = .ok (.iconst 0, 1) := by decide +kernel
theorem dX3_submit_64 : decode cX3_submit 64 = .ok (.istore 6, 2) := by decide +kernel
theorem dX3_submit_66 : decode cX3_submit 66 = .ok (.aload_n 0, 1) := by decide +kernel
theorem dX3_submit_67 : decode cX3_submit 67 = .ok (.iload 6, 2) := by decide +kernel
theorem dX3_submit_69 : decode cX3_submit 69 = .ok (.ifCond .ne 7, 3) := by decide +kernel
theorem dX3_submit_72 : decode cX3_submit 72 = .ok (.iconst 1, 1) := by decide +kernel
theorem dX3_submit_73 : decode cX3_submit 73 = .ok (.goto 4, 3) := by decide +kernel
theorem dX3_submit_76 : decode cX3_submit 76 = .ok (.iconst 0, 1) := by decide +kernel
theorem dX3_submit_77 : decode cX3_submit 77 = .ok (.iconst 0, 1) := by decide +kernel
theorem dX3_submit_78 : decode cX3_submit 78 = .ok (.invokevirtual 77, 3) := by decide +kernel
theorem dX3_submit_81 : decode cX3_submit 81 = .ok (.ifCond .eq 5, 3) := by decide +kernel
theorem dX3_submit_84 : decode cX3_submit 84 = .ok (.iconst 0, 1) := by decide +kernel
theorem dX3_submit_85 : decode cX3_submit 85 = .ok (.ireturn, 1) := by decide +kernel
theorem dX3_submit_86 : decode cX3_submit 86 = .ok (.aload_n 0, 1) := by decide +kernel
theorem dX3_submit_87 : decode cX3_submit 87 = .ok (.iload_n 1, 1) := by decide +kernel
theorem dX3_submit_88 : decode cX3_submit 88 = .ok (.invokevirtual 85, 3) := by decide +kernel
theorem dX3_submit_91 : decode cX3_submit 91 = .ok (.istore 7, 2) := by decide +kernel
theorem dX3_submit_93 : decode cX3_submit 93 = .ok (.iload 7, 2) := by decide +kernel
theorem dX3_submit_95 : decode cX3_submit 95 = .ok (.bipush 64, 2) := by decide +kernel
theorem dX3_submit_97 : decode cX3_submit 97 = .ok (.if_icmp .eq 13, 3) := by decide +kernel
theorem dX3_submit_100 : decode cX3_submit 100 = .ok (.aload_n 0, 1) := by decide +kernel
theorem dX3_submit_101 : decode cX3_submit 101 = .ok (.getfield 70, 3) := by decide +kernel
theorem dX3_submit_104 : decode cX3_submit 104 = .ok (.sipush 500, 3) := by decide +kernel
theorem dX3_submit_107 : decode cX3_submit 107 = .ok (.if_icmp .ne 5, 3) := by decide +kernel
theorem dX3_submit_110 : decode cX3_submit 110 = .ok (.iconst (-1), 1) := by decide +kernel
theorem dX3_submit_111 : decode cX3_submit 111 = .ok (.ireturn, 1) := by decide +kernel
theorem dX3_submit_112 : decode cX3_submit 112 = .ok (.iload 7, 2) := by decide +kernel
theorem dX3_submit_114 : decode cX3_submit 114 = .ok (.ifCond .ne 8, 3) := by decide +kernel
theorem dX3_submit_117 : decode cX3_submit 117 = .ok (.aload_n 0, 1) := by decide +kernel
theorem dX3_submit_118 : decode cX3_submit 118 = .ok (.iload_n 1, 1) := by decide +kernel
theorem dX3_submit_119 : decode cX3_submit 119 = .ok (.invokevirtual 103, 3) := by decide +kernel
theorem dX3_submit_122 : decode cX3_submit 122 = .ok (.aload_n 0, 1) := by decide +kernel
theorem dX3_submit_123 : decode cX3_submit 123 = .ok (.getfield 70, 3) := by decide +kernel
theorem dX3_submit_126 : decode cX3_submit 126 = .ok (.istore 8, 2) := by decide +kernel
theorem dX3_submit_128 : decode cX3_submit 128 = .ok (.aload_n 0, 1) := by decide +kernel
theorem dX3_submit_129 : decode cX3_submit 129 = .ok (.dup, 1) := by decide +kernel
theorem dX3_submit_130 : decode cX3_submit 130 = .ok (.getfield 70, 3) := by decide +kernel
theorem dX3_submit_133 : decode cX3_submit 133 = .ok (.iconst 1, 1) := by decide +kernel
theorem dX3_submit_134 : decode cX3_submit 134 = .ok (.iadd, 1) := by decide +kernel
theorem dX3_submit_135 : decode cX3_submit 135 = .ok (.putfield 70, 3) := by decide +kernel
theorem dX3_submit_138 : decode cX3_submit 138 = .ok (.aload_n 0, 1) := by decide +kernel
theorem dX3_submit_139 : decode cX3_submit 139 = .ok (.getfield 33, 3) := by decide +kernel
theorem dX3_submit_142 : decode cX3_submit 142 = .ok (.iload 8, 2) := by decide +kernel
theorem dX3_submit_144 : decode cX3_submit 144 = .ok (.iload_n 1, 1) := by decide +kernel
theorem dX3_submit_145 : decode cX3_submit 145 = .ok (.iastore, 1) := by decide +kernel
theorem dX3_submit_146 : decode cX3_submit 146 = .ok (.aload_n 0, 1) := by decide +kernel
theorem dX3_submit_147 : decode cX3_submit 147 = .ok (.getfield 36, 3) := by decide +kernel
theorem dX3_submit_150 : decode cX3_submit 150 = .ok (.iload 8, 2) := by decide +kernel
theorem dX3_submit_152 : decode cX3_submit 152 = .ok (.iload_n 3, 1) := by decide +kernel
theorem dX3_submit_153 : decode cX3_submit 153 = .ok (.iastore, 1) := by decide +kernel
theorem dX3_submit_154 : decode cX3_submit 154 = .ok (.aload_n 0, 1) := by decide +kernel
theorem dX3_submit_155 : decode cX3_submit 155 = .ok (.getfield 39, 3) := by decide +kernel
theorem dX3_submit_158 : decode cX3_submit 158 = .ok (.iload 8, 2) := by decide +kernel
theorem dX3_submit_160 : decode cX3_submit 160 = .ok (.iload 4, 2) := by decide +kernel
theorem dX3_submit_162 : decode cX3_submit 162 = .ok (.iastore, 1) := by decide +kernel
theorem dX3_submit_163 : decode cX3_submit 163 = .ok (.aload_n 0, 1) := by decide +kernel
theorem dX3_submit_164 : decode cX3_submit 164 = .ok (.getfield 45, 3) := by decide +kernel
theorem dX3_submit_167 : decode cX3_submit 167 = .ok (.iload 8, 2) := by decide +kernel
theorem dX3_submit_169 : decode cX3_submit 169 = .ok (.iload_n 2, 1) := by decide +kernel
theorem dX3_submit_170 : decode cX3_submit 170 = .ok (.bastore, 1) := by decide +kernel
theorem dX3_submit_171 : decode cX3_submit 171 = .ok (.aload_n 0, 1) := by decide +kernel
theorem dX3_submit_172 : decode cX3_submit 172 = .ok (.getfield 54, 3) := by decide +kernel
theorem dX3_submit_175 : decode cX3_submit 175 = .ok (.iload 8, 2) := by decide +kernel
theorem dX3_submit_177 : decode cX3_submit 177 = .ok (.aload_n 0, 1) := by decide +kernel
theorem dX3_submit_178 : decode cX3_submit 178 = .ok (.getfield 107, 3) := by decide +kernel
theorem dX3_submit_181 : decode cX3_submit 181 = .ok (.iload 5, 2) := by decide +kernel
theorem dX3_submit_183 : decode cX3_submit 183 = .ok (.i2l, 1) := by decide +kernel
theorem dX3_submit_184 : decode cX3_submit 184 = .ok (.ladd, 1) := by decide +kernel
theorem dX3_submit_185 : decode cX3_submit 185 = .ok (.lastore, 1) := by decide +kernel
theorem dX3_submit_186 : decode cX3_submit 186 = .ok (.iload 8, 2) := by decide +kernel
theorem dX3_submit_188 : decode cX3_submit 188 = .ok (.ireturn, 1) := by decide +kernel
theorem dX3_begin_0 : decode cX3_begin 0 = .ok (.aload_n 0, 1) := by decide +kernel
theorem dX3_begin_1 : decode cX3_begin 1 = .ok (.getfield 20, 3) := by decide +kernel
theorem dX3_begin_4 : decode cX3_begin 4 = .ok (.iload_n 1, 1) := by decide +kernel
theorem dX3_begin_5 : decode cX3_begin 5 = .ok (.aload_n 0, 1) := by decide +kernel
theorem dX3_begin_6 : decode cX3_begin 6 = .ok (.getfield 20, 3) := by decide +kernel
theorem dX3_begin_9 : decode cX3_begin 9 = .ok (.iload_n 1, 1) := by decide +kernel
theorem dX3_begin_10 : decode cX3_begin 10 = .ok (.laload, 1) := by decide +kernel
theorem dX3_begin_11 : decode cX3_begin 11 = .ok (.aload_n 0, 1) := by decide +kernel
theorem dX3_begin_12 : decode cX3_begin 12 = .ok (.getfield 20, 3) := by decide +kernel
theorem dX3_begin_15 : decode cX3_begin 15 = .ok (.bipush 8, 2) := by decide +kernel
theorem dX3_begin_17 : decode cX3_begin 17 = .ok (.laload, 1) := by decide +kernel
theorem dX3_begin_18 : decode cX3_begin 18 = .ok (.lcmp, 1) := by decide +kernel
theorem dX3_begin_19 : decode cX3_begin 19 = .ok (.ifCond .le 12, 3) := by decide +kernel
theorem dX3_begin_22 : decode cX3_begin 22 = .ok (.aload_n 0, 1) := by decide +kernel
theorem dX3_begin_23 : decode cX3_begin 23 = .ok (.getfield 20, 3) := by decide +kernel
theorem dX3_begin_26 : decode cX3_begin 26 = .ok (.iload_n 1, 1) := by decide +kernel
theorem dX3_begin_27 : decode cX3_begin 27 = .ok (.laload, 1) := by decide +kernel
theorem dX3_begin_28 : decode cX3_begin 28 = .ok (.goto 10, 3) := by decide +kernel
theorem dX3_begin_31 : decode cX3_begin 31 = .ok (.aload_n 0, 1) := by decide +kernel
theorem dX3_begin_32 : decode cX3_begin 32 = .ok (.getfield 20, 3) := by decide +kernel
theorem dX3_begin_35 : decode cX3_begin 35 = .ok (.bipush 8, 2) := by decide +kernel
theorem dX3_begin_37 : decode cX3_begin 37 = .ok (.laload, 1) := by decide +kernel
theorem dX3_begin_38 : decode cX3_begin 38 = .ok (.lastore, 1) := by decide +kernel
theorem dX3_begin_39 : decode cX3_begin 39 = .ok (.iconst 0, 1) := by decide +kernel
theorem dX3_begin_40 : decode cX3_begin 40 = .ok (.istore_n 2, 1) := by decide +kernel
end
section
theorem dX3_begin_41 : decode cX3_begin 41 = .ok (.iload_n 2, 1) := by decide +kernel
theorem dX3_begin_42 : decode cX3_begin 42 = .ok (.bipush 8, 2) := by decide +kernel
theorem dX3_begin_44 : decode cX3_begin 44 = .ok (.if_icmp .ge 43, 3) := by decide +kernel
theorem dX3_begin_47 : decode cX3_begin 47 = .ok (.aload_n 0, 1) := by decide +kernel
theorem dX3_begin_48 : decode cX3_begin 48 = .ok (.getfield 30, 3) := by decide +kernel
theorem dX3_begin_51 : decode cX3_begin 51 = .ok (.bipush 8, 2) := by decide +kernel
theorem dX3_begin_53 : decode cX3_begin 53 = .ok (.iload_n 1, 1) := by decide +kernel
theorem dX3_begin_54 : decode cX3_begin 54 = .ok (.imul, 1) := by decide +kernel
theorem dX3_begin_55 : decode cX3_begin 55 = .ok (.iload_n 2, 1) := by decide +kernel
theorem dX3_begin_56 : decode cX3_begin 56 = .ok (.iadd, 1) := by decide +kernel
theorem dX3_begin_57 : decode cX3_begin 57 = .ok (.aload_n 0, 1) := by decide +kernel
theorem dX3_begin_58 : decode cX3_begin 58 = .ok (.getfield 27, 3) := by decide +kernel
theorem dX3_begin_61 : decode cX3_begin 61 = .ok (.iload_n 1, 1) := by decide +kernel
theorem dX3_begin_62 : decode cX3_begin 62 = .ok (.laload, 1) := by decide +kernel
theorem dX3_begin_63 : decode cX3_begin 63 = .ok (.lastore, 1) := by decide +kernel
theorem dX3_begin_64 : decode cX3_begin 64 = .ok (.aload_n 0, 1) := by decide +kernel
theorem dX3_begin_65 : decode cX3_begin 65 = .ok (.getfield 30, 3) := by decide +kernel
theorem dX3_begin_68 : decode cX3_begin 68 = .ok (.bipush 8, 2) := by decide +kernel
theorem dX3_begin_70 : decode cX3_begin 70 = .ok (.iload_n 2, 1) := by decide +kernel
theorem dX3_begin_71 : decode cX3_begin 71 = .ok (.imul, 1) := by decide +kernel
theorem dX3_begin_72 : decode cX3_begin 72 = .ok (.iload_n 1, 1) := by decide +kernel
theorem dX3_begin_73 : decode cX3_begin 73 = .ok (.iadd, 1) := by decide +kernel
theorem dX3_begin_74 : decode cX3_begin 74 = .ok (.aload_n 0, 1) := by decide +kernel
theorem dX3_begin_75 : decode cX3_begin 75 = .ok (.getfield 27, 3) := by decide +kernel
theorem dX3_begin_78 : decode cX3_begin 78 = .ok (.iload_n 2, 1) := by decide +kernel
theorem dX3_begin_79 : decode cX3_begin 79 = .ok (.laload, 1) := by decide +kernel
theorem dX3_begin_80 : decode cX3_begin 80 = .ok (.lastore, 1) := by decide +kernel
theorem dX3_begin_81 : decode cX3_begin 81 = .ok (.iinc 2 1, 3) := by decide +kernel
theorem dX3_begin_84 : decode cX3_begin 84 = .ok (.goto (-43), 3) := by decide +kernel
theorem dX3_begin_87 : decode cX3_begin 87 = .ok (.return_, 1) := by decide +kernel
theorem dX3_isBlocked_0 : decode cX3_isBlocked 0 = .ok (.iconst 0, 1) := by decide +kernel
theorem dX3_isBlocked_1 : decode cX3_isBlocked 1 = .ok (.istore_n 2, 1) := by decide +kernel
theorem dX3_isBlocked_2 : decode cX3_isBlocked 2 = .ok (.iconst 0, 1) := by decide +kernel
theorem dX3_isBlocked_3 : decode cX3_isBlocked 3 = .ok (.istore_n 3, 1) := by decide +kernel
theorem dX3_isBlocked_4 : decode cX3_isBlocked 4 = .ok (.iload_n 3, 1) := by decide +kernel
theorem dX3_isBlocked_5 : decode cX3_isBlocked 5 = .ok (.iload_n 1, 1) := by decide +kernel
theorem dX3_isBlocked_6 : decode cX3_isBlocked 6 = .ok (.if_icmp .ge 117, 3) := by decide +kernel
theorem dX3_isBlocked_9 : decode cX3_isBlocked 9 = .ok (.aload_n 0, 1) := by decide +kernel
theorem dX3_isBlocked_10 : decode cX3_isBlocked 10 = .ok (.getfield 36, 3) := by decide +kernel
theorem dX3_isBlocked_13 : decode cX3_isBlocked 13 = .ok (.iload_n 3, 1) := by decide +kernel
theorem dX3_isBlocked_14 : decode cX3_isBlocked 14 = .ok (.iaload, 1) := by decide +kernel
theorem dX3_isBlocked_15 : decode cX3_isBlocked 15 = .ok (.aload_n 0, 1) := by decide +kernel
theorem dX3_isBlocked_16 : decode cX3_isBlocked 16 = .ok (.getfield 36, 3) := by decide +kernel
theorem dX3_isBlocked_19 : decode cX3_isBlocked 19 = .ok (.iload_n 1, 1) := by decide +kernel
theorem dX3_isBlocked_20 : decode cX3_isBlocked 20 = .ok (.iaload, 1) := by decide +kernel
theorem dX3_isBlocked_21 : decode cX3_isBlocked 21 = .ok (.aload_n 0, 1) := by decide +kernel
theorem dX3_isBlocked_22 : decode cX3_isBlocked 22 = .ok (.getfield 39, 3) := by decide +kernel
theorem dX3_isBlocked_25 : decode cX3_isBlocked 25 = .ok (.iload_n 1, 1) := by decide +kernel
theorem dX3_isBlocked_26 : decode cX3_isBlocked 26 = .ok (.iaload, 1) := by decide +kernel
theorem dX3_isBlocked_27 : decode cX3_isBlocked 27 = .ok (.iadd, 1) := by decide +kernel
theorem dX3_isBlocked_28 : decode cX3_isBlocked 28 = .ok (.if_icmp .ge 29, 3) := by decide +kernel
theorem dX3_isBlocked_31 : decode cX3_isBlocked 31 = .ok (.aload_n 0, 1) := by decide +kernel
theorem dX3_isBlocked_32 : decode cX3_isBlocked 32 = .ok (.getfield 36, 3) := by decide +kernel
theorem dX3_isBlocked_35 : decode cX3_isBlocked 35 = .ok (.iload_n 1, 1) := by decide +kernel
theorem dX3_isBlocked_36 : decode cX3_isBlocked 36 = .ok (.iaload, 1) := by decide +kernel
theorem dX3_isBlocked_37 : decode cX3_isBlocked 37 = .ok (.aload_n 0, 1) := by decide +kernel
theorem dX3_isBlocked_38 : decode cX3_isBlocked 38 = .ok (.getfield 36, 3) := by decide +kernel
theorem dX3_isBlocked_41 : decode cX3_isBlocked 41 = .ok (.iload_n 3, 1) := by decide +kernel
theorem dX3_isBlocked_42 : decode cX3_isBlocked 42 = .ok (.iaload, 1) := by decide +kernel
theorem dX3_isBlocked_43 : decode cX3_isBlocked 43 = .ok (.aload_n 0, 1) := by decide +kernel
theorem dX3_isBlocked_44 : decode cX3_isBlocked 44 = .ok (.getfield 39, 3) := by decide +kernel
theorem dX3_isBlocked_47 : decode cX3_isBlocked 47 = .ok (.iload_n 3, 1) := by decide +kernel
theorem dX3_isBlocked_48 : decode cX3_isBlocked 48 = .ok (.iaload, 1) := by decide +kernel
theorem dX3_isBlocked_49 : decode cX3_isBlocked 49 = .ok (.iadd, 1) := by decide +kernel
theorem dX3_isBlocked_50 : decode cX3_isBlocked 50 = .ok (.if_icmp .ge 7, 3) := by decide +kernel
theorem dX3_isBlocked_53 : decode cX3_isBlocked 53 = .ok (.iconst 1, 1) := by decide +kernel
theorem dX3_isBlocked_54 : decode cX3_isBlocked 54 = .ok (.goto 4, 3) := by decide +kernel
theorem dX3_isBlocked_57 : decode cX3_isBlocked 57 = .ok (.iconst 0, 1) := by decide +kernel
theorem dX3_isBlocked_58 : decode cX3_isBlocked 58 = .ok (.istore 4, 2) := by decide +kernel
theorem dX3_isBlocked_60 : decode cX3_isBlocked 60 = .ok (.iload_n 2, 1) := by decide +kernel
theorem dX3_isBlocked_61 : decode cX3_isBlocked 61 = .ok (.ifCond .ne 50, 3) := by decide +kernel
theorem dX3_isBlocked_64 : decode cX3_isBlocked 64 = .ok (.aload_n 0, 1) := by decide +kernel
theorem dX3_isBlocked_65 : decode cX3_isBlocked 65 = .ok (.getfield 48, 3) := by decide +kernel
theorem dX3_isBlocked_68 : decode cX3_isBlocked 68 = .ok (.iload_n 3, 1) := by decide +kernel
theorem dX3_isBlocked_69 : decode cX3_isBlocked 69 = .ok (.baload, 1) := by decide +kernel
theorem dX3_isBlocked_70 : decode cX3_isBlocked 70 = .ok (.ifCond .ne 45, 3) := by decide +kernel
theorem dX3_isBlocked_73 : decode cX3_isBlocked 73 = .ok (.aload_n 0, 1) := by decide +kernel
theorem dX3_isBlocked_74 : decode cX3_isBlocked 74 = .ok (.getfield 33, 3) := by decide +kernel
theorem dX3_isBlocked_77 : decode cX3_isBlocked 77 = .ok (.iload_n 3, 1) := by decide +kernel
theorem dX3_isBlocked_78 : decode cX3_isBlocked 78 = .ok (.iaload, 1) := by decide +kernel
theorem dX3_isBlocked_79 : decode cX3_isBlocked 79 = .ok (.aload_n 0, 1) := by decide +kernel
theorem dX3_isBlocked_80 : decode cX3_isBlocked 80 = .ok (.getfield 33, 3) := by decide +kernel
theorem dX3_isBlocked_83 : decode cX3_isBlocked 83 = .ok (.iload_n 1, 1) := by decide +kernel
theorem dX3_isBlocked_84 : decode cX3_isBlocked 84 = .ok (.iaload, 1) := by decide +kernel
theorem dX3_isBlocked_85 : decode cX3_isBlocked 85 = .ok (.if_icmp .ne 30, 3) := by decide +kernel
theorem dX3_isBlocked_88 : decode cX3_isBlocked 88 = .ok (.iload 4, 2) := by decide +kernel
theorem dX3_isBlocked_90 : decode cX3_isBlocked 90 = .ok (.ifCond .eq 25, 3) := by decide +kernel
theorem dX3_isBlocked_93 : decode cX3_isBlocked 93 = .ok (.aload_n 0, 1) := by decide +kernel
theorem dX3_isBlocked_94 : decode cX3_isBlocked 94 = .ok (.getfield 45, 3) := by decide +kernel
theorem dX3_isBlocked_97 : decode cX3_isBlocked 97 = .ok (.iload_n 3, 1) := by decide +kernel
theorem dX3_isBlocked_98 : decode cX3_isBlocked 98 = .ok (.baload, 1) := by decide +kernel
theorem dX3_isBlocked_99 : decode cX3_isBlocked 99 = .ok (.ifCond .ne 12, 3) := by decide +kernel
theorem dX3_isBlocked_102 : decode cX3_isBlocked 102 = .ok (.aload_n 0, 1) := by decide +kernel
theorem dX3_isBlocked_103 : decode cX3_isBlocked 103 = .ok (.getfield 45, 3) := by decide +kernel
theorem dX3_isBlocked_106 : decode cX3_isBlocked 106 = .ok (.iload_n 1, 1) := by decide +kernel
theorem dX3_isBlocked_107 : decode cX3_isBlocked 107 = .ok (.baload, 1) := by decide +kernel
theorem dX3_isBlocked_108 : decode cX3_isBlocked 108 = .ok (.ifCond .eq 7, 3) := by decide +kernel
theorem dX3_isBlocked_111 : decode cX3_isBlocked 111 = .ok (.iconst 1, 1) := by decide +kernel
theorem dX3_isBlocked_112 : decode cX3_isBlocked 112 = .ok (.goto 4, 3) := by decide +kernel
theorem dX3_isBlocked_115 : decode cX3_isBlocked 115 = .ok (.iconst 0, 1) := by decide +kernel
theorem dX3_isBlocked_116 : decode cX3_isBlocked 116 = .ok (.istore_n 2, 1) := by decide +kernel
theorem dX3_isBlocked_117 : decode cX3_isBlocked 117 = .ok (.iinc 3 1, 3) := by decide +kernel
theorem dX3_isBlocked_120 : decode cX3_isBlocked 120 = .ok (.goto (-116), 3) := by decide +kernel
theorem dX3_isBlocked_123 : decode cX3_isBlocked 123 = .ok (.iload_n 2, 1) := by decide +kernel
theorem dX3_isBlocked_124 : decode cX3_isBlocked 124 = .ok (.ireturn, 1) := by decide +kernel
set_option maxRecDepth 20000 in
theorem ggX3_canGo_X3_isBlocked : GoodIn wsX3_canGo wsX3_isBlocked := goodIn_r _ [6, 7, 8, 1, 9, 10, 11, 12, 13, 14, 15, 16, 17, 18, 19, 20, 21, 22, 23, 24, 25, 26, 27, 28, 29, 30, 31, 32, 33, 34] (by decide +kernel) (by decide +kernel)
set_option maxRecDepth 20000 in
theorem gX3_canGo_X3_isBlocked : GoodIn wsX3_canGo (wsV RX3 111 RX3 yX3_isBlocked wsX3_isBlocked) := goodIn_app (goodIn_of _ (by decide +kernel)) ggX3_canGo_X3_isBlocked
theorem dX3_canGo_0 : decode cX3_canGo 0 = .ok (.aload_n 0, 1) := by decide +kernel
theorem dX3_canGo_1 : decode cX3_canGo 1 = .ok (.getfield 48, 3) := by decide +kernel
theorem dX3_canGo_4 : decode cX3_canGo 4 = .ok (.iload_n 1, 1) := by decide +kernel
theorem dX3_canGo_5 : decode cX3_canGo 5 = .ok (.baload, 1) := by decide +kernel
theorem dX3_canGo_6 : decode cX3_canGo 6 = .ok (.ifCond .ne 15, 3) := by decide +kernel
theorem dX3_canGo_9 : decode cX3_canGo 9 = .ok (.aload_n 0, 1) := by decide +kernel
theorem dX3_canGo_10 : decode cX3_canGo 10 = .ok (.iload_n 1, 1) := by decide +kernel
theorem dX3_canGo_11 : decode cX3_canGo 11 = .ok (.invokevirtual 111, 3) := by decide +kernel
theorem dX3_canGo_14 : decode cX3_canGo 14 = .ok (.ifCond .ne 7, 3) := by decide +kernel
theorem dX3_canGo_17 : decode cX3_canGo 17 = .ok (.iconst 1, 1) := by decide +kernel
theorem dX3_canGo_18 : decode cX3_canGo 18 = .ok (.goto 4, 3) := by decide +kernel
theorem dX3_canGo_21 : decode cX3_canGo 21 = .ok (.iconst 0, 1) := by decide +kernel
theorem dX3_canGo_22 : decode cX3_canGo 22 = .ok (.ireturn, 1) := by decide +kernel
set_option maxRecDepth 20000 in
theorem ggX3_due_X3_canGo : GoodIn wsX3_due wsX3_canGo := goodIn_r _ [8, 9, 10, 11, 12, 7, 13, 14, 15, 16, 17, 18, 19, 20, 21, 22, 23, 24, 25, 26, 27, 28, 29, 30, 31, 32, 33, 34, 35, 36, 37, 38, 39, 40, 41] (by decide +kernel) (by decide +kernel)
set_option maxRecDepth 20000 in
theorem gX3_due_X3_canGo : GoodIn wsX3_due (wsV RX3 114 RX3 yX3_canGo wsX3_canGo) := goodIn_app (goodIn_of _ (by decide +kernel)) ggX3_due_X3_canGo
theorem dX3_due_0 : decode cX3_due 0 = .ok (.iconst (-1), 1) := by decide +kernel
theorem dX3_due_1 : decode cX3_due 1 = .ok (.istore_n 1, 1) := by decide +kernel
theorem dX3_due_2 : decode cX3_due 2 = .ok (.iconst 0, 1) := by decide +kernel
theorem dX3_due_3 : decode cX3_due 3 = .ok (.istore_n 2, 1) := by decide +kernel
theorem dX3_due_4 : decode cX3_due 4 = .ok (.iload_n 2, 1) := by decide +kernel
theorem dX3_due_5 : decode cX3_due 5 = .ok (.aload_n 0, 1) := by decide +kernel
theorem dX3_due_6 : decode cX3_due 6 = .ok (.getfield 70, 3) := by decide +kernel
theorem dX3_due_9 : decode cX3_due 9 = .ok (.if_icmp .ge 61, 3) := by decide +kernel
theorem dX3_due_12 : decode cX3_due 12 = .ok (.aload_n 0, 1) := by decide +kernel
theorem dX3_due_13 : decode cX3_due 13 = .ok (.iload_n 2, 1) := by decide +kernel
theorem dX3_due_14 : decode cX3_due 14 = .ok (.invokevirtual 114, 3) := by decide +kernel
theorem dX3_due_17 : decode cX3_due 17 = .ok (.ifCond .eq 47, 3) := by decide +kernel
theorem dX3_due_20 : decode cX3_due 20 = .ok (.aload_n 0, 1) := by decide +kernel
theorem dX3_due_21 : decode cX3_due 21 = .ok (.getfield 54, 3) := by decide +kernel
theorem dX3_due_24 : decode cX3_due 24 = .ok (.iload_n 2, 1) := by decide +kernel
theorem dX3_due_25 : decode cX3_due 25 = .ok (.laload, 1) := by decide +kernel
theorem dX3_due_26 : decode cX3_due 26 = .ok (.aload_n 0, 1) := by decide +kernel
theorem dX3_due_27 : decode cX3_due 27 = .ok (.getfield 107, 3) := by decide +kernel
theorem dX3_due_30 : decode cX3_due 30 = .ok (.lcmp, 1) := by decide +kernel
theorem dX3_due_31 : decode cX3_due 31 = .ok (.ifCond .le 6, 3) := by decide +kernel
theorem dX3_due_34 : decode cX3_due 34 = .ok (.goto 30, 3) := by decide +kernel
theorem dX3_due_37 : decode cX3_due 37 = .ok (.iload_n 1, 1) := by decide +kernel
theorem dX3_due_38 : decode cX3_due 38 = .ok (.iconst (-1), 1) := by decide +kernel
theorem dX3_due_39 : decode cX3_due 39 = .ok (.if_icmp .eq 19, 3) := by decide +kernel
theorem dX3_due_42 : decode cX3_due 42 = .ok (.aload_n 0, 1) := by decide +kernel
theorem dX3_due_43 : decode cX3_due 43 = .ok (.getfield 54, 3) := by decide +kernel
theorem dX3_due_46 : decode cX3_due 46 = .ok (.iload_n 2, 1) := by decide +kernel
theorem dX3_due_47 : decode cX3_due 47 = .ok (.laload, 1) := by decide +kernel
theorem dX3_due_48 : decode cX3_due 48 = .ok (.aload_n 0, 1) := by decide +kernel
theorem dX3_due_49 : decode cX3_due 49 = .ok (.getfield 54, 3) := by decide +kernel
theorem dX3_due_52 : decode cX3_due 52 = .ok (.iload_n 1, 1) := by decide +kernel
theorem dX3_due_53 : decode cX3_due 53 = .ok (.laload, 1) := by decide +kernel
theorem dX3_due_54 : decode cX3_due 54 = .ok (.lcmp, 1) := by decide +kernel
theorem dX3_due_55 : decode cX3_due 55 = .ok (.ifCond .ge 7, 3) := by decide +kernel
theorem dX3_due_58 : decode cX3_due 58 = .ok (.iload_n 2, 1) := by decide +kernel
theorem dX3_due_59 : decode cX3_due 59 = .ok (.goto 4, 3) := by decide +kernel
theorem dX3_due_62 : decode cX3_due 62 = .ok (.iload_n 1, 1) := by decide +kernel
theorem dX3_due_63 : decode cX3_due 63 = .ok (.istore_n 1, 1) := by decide +kernel
theorem dX3_due_64 : decode cX3_due 64 = .ok (.iinc 2 1, 3) := by decide +kernel
theorem dX3_due_67 : decode cX3_due 67 = .ok (.goto (-63), 3) := by decide +kernel
theorem dX3_due_70 : decode cX3_due 70 = .ok (.iload_n 1, 1) := by decide +kernel
theorem dX3_due_71 : decode cX3_due 71 = .ok (.ireturn, 1) := by decide +kernel
set_option maxRecDepth 20000 in
theorem ggX3_choose_X3_waiting : GoodIn wsX3_choose wsX3_waiting := goodIn_r _ [9, 10, 11, 12, 13, 14, 15, 16, 17, 18, 19, 20, 21, 22, 23, 24, 25, 26, 27, 28, 29, 30, 31, 32, 33, 34, 35, 36] (by decide +kernel) (by decide +kernel)
set_option maxRecDepth 20000 in
theorem gX3_choose_X3_waiting : GoodIn wsX3_choose (wsV RX3 85 RX3 yX3_waiting wsX3_waiting) := goodIn_app (goodIn_of _ (by decide +kernel)) ggX3_choose_X3_waiting
theorem dX3_choose_0 : decode cX3_choose 0 = .ok (.iconst 0, 1) := by decide +kernel
theorem dX3_choose_1 : decode cX3_choose 1 = .ok (.istore_n 1, 1) := by decide +kernel
theorem dX3_choose_2 : decode cX3_choose 2 = .ok (.iload_n 1, 1) := by decide +kernel
theorem dX3_choose_3 : decode cX3_choose 3 = .ok (.bipush 8, 2) := by decide +kernel
theorem dX3_choose_5 : decode cX3_choose 5 = .ok (.if_icmp .ge 49, 3) := by decide +kernel
theorem dX3_choose_8 : decode cX3_choose 8 = .ok (.aload_n 0, 1) := by decide +kernel
theorem dX3_choose_9 : decode cX3_choose 9 = .ok (.iload_n 1, 1) := by decide +kernel
theorem dX3_choose_10 : decode cX3_choose 10 = .ok (.invokevirtual 85, 3) := by decide +kernel
theorem dX3_choose_13 : decode cX3_choose 13 = .ok (.ifCond .le 35, 3) := by decide +kernel
theorem dX3_choose_16 : decode cX3_choose 16 = .ok (.aload_n 0, 1) := by decide +kernel
theorem dX3_choose_17 : decode cX3_choose 17 = .ok (.getfield 57, 3) := by decide +kernel
theorem dX3_choose_20 : decode cX3_choose 20 = .ok (.iconst (-1), 1) := by decide +kernel
theorem dX3_choose_21 : decode cX3_choose 21 = .ok (.if_icmp .eq 22, 3) := by decide +kernel
theorem dX3_choose_24 : decode cX3_choose 24 = .ok (.aload_n 0, 1) := by decide +kernel
theorem dX3_choose_25 : decode cX3_choose 25 = .ok (.getfield 20, 3) := by decide +kernel
theorem dX3_choose_28 : decode cX3_choose 28 = .ok (.iload_n 1, 1) := by decide +kernel
theorem dX3_choose_29 : decode cX3_choose 29 = .ok (.laload, 1) := by decide +kernel
theorem dX3_choose_30 : decode cX3_choose 30 = .ok (.aload_n 0, 1) := by decide +kernel
theorem dX3_choose_31 : decode cX3_choose 31 = .ok (.getfield 20, 3) := by decide +kernel
theorem dX3_choose_34 : decode cX3_choose 34 = .ok (.aload_n 0, 1) := by decide +kernel
theorem dX3_choose_35 : decode cX3_choose 35 = .ok (.getfield 57, 3) := by decide +kernel
theorem dX3_choose_38 : decode cX3_choose 38 = .ok (.laload, 1) := by decide +kernel
theorem dX3_choose_39 : decode cX3_choose 39 = .ok (.lcmp, 1) := by decide +kernel
theorem dX3_choose_40 : decode cX3_choose 40 = .ok (.ifCond .ge 8, 3) := by decide +kernel
theorem dX3_choose_43 : decode cX3_choose 43 = .ok (.aload_n 0, 1) := by decide +kernel
theorem dX3_choose_44 : decode cX3_choose 44 = .ok (.iload_n 1, 1) := by decide +kernel
theorem dX3_choose_45 : decode cX3_choose 45 = .ok (.putfield 57, 3) := by decide +kernel
theorem dX3_choose_48 : decode cX3_choose 48 = .ok (.iinc 1 1, 3) := by decide +kernel
theorem dX3_choose_51 : decode cX3_choose 51 = .ok (.goto (-49), 3) := by decide +kernel
theorem dX3_choose_54 : decode cX3_choose 54 = .ok (.aload_n 0, 1) := by decide +kernel
theorem dX3_choose_55 : decode cX3_choose 55 = .ok (.aload_n 0, 1) := by decide +kernel
theorem dX3_choose_56 : decode cX3_choose 56 = .ok (.getfield 17, 3) := by decide +kernel
theorem dX3_choose_59 : decode cX3_choose 59 = .ok (.aload_n 0, 1) := by decide +kernel
theorem dX3_choose_60 : decode cX3_choose 60 = .ok (.getfield 57, 3) := by decide +kernel
theorem dX3_choose_63 : decode cX3_choose 63 = .ok (.iaload, 1) := by decide +kernel
theorem dX3_choose_64 : decode cX3_choose 64 = .ok (.putfield 92, 3) := by decide +kernel
theorem dX3_choose_67 : decode cX3_choose 67 = .ok (.aload_n 0, 1) := by decide +kernel
theorem dX3_choose_68 : decode cX3_choose 68 = .ok (.getfield 20, 3) := by decide +kernel
theorem dX3_choose_71 : decode cX3_choose 71 = .ok (.bipush 8, 2) := by decide +kernel
theorem dX3_choose_73 : decode cX3_choose 73 = .ok (.aload_n 0, 1) := by decide +kernel
theorem dX3_choose_74 : decode cX3_choose 74 = .ok (.getfield 20, 3) := by decide +kernel
theorem dX3_choose_77 : decode cX3_choose 77 = .ok (.aload_n 0, 1) := by decide +kernel
theorem dX3_choose_78 : decode cX3_choose 78 = .ok (.getfield 57, 3) := by decide +kernel
theorem dX3_choose_81 : decode cX3_choose 81 = .ok (.laload, 1) := by decide +kernel
theorem dX3_choose_82 : decode cX3_choose 82 = .ok (.lastore, 1) := by decide +kernel
theorem dX3_choose_83 : decode cX3_choose 83 = .ok (.return_, 1) := by decide +kernel
set_option maxRecDepth 20000 in
theorem ggX3_next_X3_canGo : GoodIn wsX3_next wsX3_canGo := goodIn_r _ [8, 9, 10, 11, 12, 7, 13, 14, 15, 2, 16, 23, 24, 25, 26, 27, 28, 29, 30, 31, 32, 33, 34, 35, 36, 37, 38, 39, 40, 41, 42, 43, 44, 45, 46] (by decide +kernel) (by decide +kernel)
set_option maxRecDepth 20000 in
theorem gX3_next_X3_canGo : GoodIn wsX3_next (wsV RX3 114 RX3 yX3_canGo wsX3_canGo) := goodIn_app (goodIn_of _ (by decide +kernel)) ggX3_next_X3_canGo
set_option maxRecDepth 20000 in
theorem ggX3_next_X3_ahead : GoodIn wsX3_next wsX3_ahead := goodIn_r _ [20, 14, 21, 22, 23, 24, 25, 26, 27, 28, 29, 30, 31, 32, 33, 34, 35, 36, 37, 38, 39, 40, 41, 42, 43, 44, 45, 46] (by decide +kernel) (by decide +kernel)
set_option maxRecDepth 20000 in
theorem gX3_next_X3_ahead : GoodIn wsX3_next (wsV RX3 117 RX3 yX3_ahead wsX3_ahead) := goodIn_app (goodIn_of _ (by decide +kernel)) ggX3_next_X3_ahead
theorem dX3_next_0 : decode cX3_next 0 = .ok (.iconst (-1), 1) := by decide +kernel
theorem dX3_next_1 : decode cX3_next 1 = .ok (.istore_n 1, 1) := by decide +kernel
theorem dX3_next_2 : decode cX3_next 2 = .ok (.iconst 0, 1) := by decide +kernel
theorem dX3_next_3 : decode cX3_next 3 = .ok (.istore_n 2, 1) := by decide +kernel
theorem dX3_next_4 : decode cX3_next 4 = .ok (.iload_n 2, 1) := by decide +kernel
theorem dX3_next_5 : decode cX3_next 5 = .ok (.aload_n 0, 1) := by decide +kernel
theorem dX3_next_6 : decode cX3_next 6 = .ok (.getfield 70, 3) := by decide +kernel
theorem dX3_next_9 : decode cX3_next 9 = .ok (.if_icmp .ge 57, 3) := by decide +kernel
theorem dX3_next_12 : decode cX3_next 12 = .ok (.aload_n 0, 1) := by decide +kernel
theorem dX3_next_13 : decode cX3_next 13 = .ok (.getfield 33, 3) := by decide +kernel
theorem dX3_next_16 : decode cX3_next 16 = .ok (.iload_n 2, 1) := by decide +kernel
theorem dX3_next_17 : decode cX3_next 17 = .ok (.iaload, 1) := by decide +kernel
theorem dX3_next_18 : decode cX3_next 18 = .ok (.aload_n 0, 1) := by decide +kernel
theorem dX3_next_19 : decode cX3_next 19 = .ok (.getfield 57, 3) := by decide +kernel
theorem dX3_next_22 : decode cX3_next 22 = .ok (.if_icmp .ne 38, 3) := by decide +kernel
theorem dX3_next_25 : decode cX3_next 25 = .ok (.aload_n 0, 1) := by decide +kernel
theorem dX3_next_26 : decode cX3_next 26 = .ok (.iload_n 2, 1) := by decide +kernel
theorem dX3_next_27 : decode cX3_next 27 = .ok (.invokevirtual 114, 3) := by decide +kernel
theorem dX3_next_30 : decode cX3_next 30 = .ok (.ifCond .ne 6, 3) := by decide +kernel
theorem dX3_next_33 : decode cX3_next 33 = .ok (.goto 27, 3) := by decide +kernel
theorem dX3_next_36 : decode cX3_next 36 = .ok (.iload_n 1, 1) := by decide +kernel
theorem dX3_next_37 : decode cX3_next 37 = .ok (.iconst (-1), 1) := by decide +kernel
theorem dX3_next_38 : decode cX3_next 38 = .ok (.if_icmp .eq 16, 3) := by decide +kernel
theorem dX3_next_41 : decode cX3_next 41 = .ok (.aload_n 0, 1) := by decide +kernel
theorem dX3_next_42 : decode cX3_next 42 = .ok (.iload_n 2, 1) := by decide +kernel
theorem dX3_next_43 : decode cX3_next 43 = .ok (.invokevirtual 117, 3) := by decide +kernel
theorem dX3_next_46 : decode cX3_next 46 = .ok (.aload_n 0, 1) := by decide +kernel
theorem dX3_next_47 : decode cX3_next 47 = .ok (.iload_n 1, 1) := by decide +kernel
theorem dX3_next_48 : decode cX3_next 48 = .ok (.invokevirtual 117, 3) := by decide +kernel
theorem dX3_next_51 : decode cX3_next 51 = .ok (.if_icmp .ge 7, 3) := by decide +kernel
theorem dX3_next_54 : decode cX3_next 54 = .ok (.iload_n 2, 1) := by decide +kernel
theorem dX3_next_55 : decode cX3_next 55 = .ok (.goto 4, 3) := by decide +kernel
theorem dX3_next_58 : decode cX3_next 58 = .ok (.iload_n 1, 1) := by decide +kernel
theorem dX3_next_59 : decode cX3_next 59 = .ok (.istore_n 1, 1) := by decide +kernel
theorem dX3_next_60 : decode cX3_next 60 = .ok (.iinc 2 1, 3) := by decide +kernel
theorem dX3_next_63 : decode cX3_next 63 = .ok (.goto (-59), 3) := by decide +kernel
theorem dX3_next_66 : decode cX3_next 66 = .ok (.iload_n 1, 1) := by decide +kernel
theorem dX3_next_67 : decode cX3_next 67 = .ok (.ireturn, 1) := by decide +kernel
theorem dX3_ahead_0 : decode cX3_ahead 0 = .ok (.aload_n 0, 1) := by decide +kernel
theorem dX3_ahead_1 : decode cX3_ahead 1 = .ok (.getfield 36, 3) := by decide +kernel
theorem dX3_ahead_4 : decode cX3_ahead 4 = .ok (.iload_n 1, 1) := by decide +kernel
theorem dX3_ahead_5 : decode cX3_ahead 5 = .ok (.iaload, 1) := by decide +kernel
theorem dX3_ahead_6 : decode cX3_ahead 6 = .ok (.aload_n 0, 1) := by decide +kernel
theorem dX3_ahead_7 : decode cX3_ahead 7 = .ok (.getfield 120, 3) := by decide +kernel
theorem dX3_ahead_10 : decode cX3_ahead 10 = .ok (.if_icmp .ge 15, 3) := by decide +kernel
theorem dX3_ahead_13 : decode cX3_ahead 13 = .ok (.aload_n 0, 1) := by decide +kernel
theorem dX3_ahead_14 : decode cX3_ahead 14 = .ok (.getfield 36, 3) := by decide +kernel
theorem dX3_ahead_17 : decode cX3_ahead 17 = .ok (.iload_n 1, 1) := by decide +kernel
theorem dX3_ahead_18 : decode cX3_ahead 18 = .ok (.iaload, 1) := by decide +kernel
theorem dX3_ahead_19 : decode cX3_ahead 19 = .ok (.ldc 123, 2) := by decide +kernel
theorem dX3_ahead_21 : decode cX3_ahead 21 = .ok (.iadd, 1) := by decide +kernel
theorem dX3_ahead_22 : decode cX3_ahead 22 = .ok (.goto 9, 3) := by decide +kernel
theorem dX3_ahead_25 : decode cX3_ahead 25 = .ok (.aload_n 0, 1) := by decide +kernel
theorem dX3_ahead_26 : decode cX3_ahead 26 = .ok (.getfield 36, 3) := by decide +kernel
theorem dX3_ahead_29 : decode cX3_ahead 29 = .ok (.iload_n 1, 1) := by decide +kernel
theorem dX3_ahead_30 : decode cX3_ahead 30 = .ok (.iaload, 1) := by decide +kernel
theorem dX3_ahead_31 : decode cX3_ahead 31 = .ok (.ireturn, 1) := by decide +kernel
set_option maxRecDepth 20000 in
theorem ggX3_dispatch_X3_due : GoodIn wsX3_dispatch wsX3_due := goodIn_r _ [9, 3, 10, 11, 12, 13, 14, 8, 15, 16, 17, 18, 19, 20, 21, 22, 23, 24, 63, 64, 65, 66, 67, 68, 69, 70, 71, 72, 73, 74, 75, 76, 77, 78, 79, 80, 81, 82, 83, 84, 85, 86] (by decide +kernel) (by decide +kernel)
set_option maxRecDepth 20000 in
theorem gX3_dispatch_X3_due : GoodIn wsX3_dispatch (wsV RX3 127 RX3 yX3_due wsX3_due) := goodIn_app (goodIn_of _ (by decide +kernel)) ggX3_dispatch_X3_due
set_option maxRecDepth 20000 in
theorem ggX3_dispatch_X3_choose : GoodIn wsX3_dispatch wsX3_choose := goodIn_r _ [28, 4, 29, 30, 31, 32, 33, 34, 8, 35, 3, 16, 23, 63, 64, 65, 66, 67, 68, 69, 70, 71, 72, 73, 74, 75, 76, 77, 78, 79, 80, 81, 82, 83, 84, 85, 86] (by decide +kernel) (by decide +kernel)
set_option maxRecDepth 20000 in
theorem gX3_dispatch_X3_choose : GoodIn wsX3_dispatch (wsV RX3 131 RX3 yX3_choose wsX3_choose) := goodIn_app (goodIn_of _ (by decide +kernel)) ggX3_dispatch_X3_choose
set_option maxRecDepth 20000 in
theorem ggX3_dispatch_X3_next : GoodIn wsX3_dispatch wsX3_next := goodIn_r _ [39, 3, 23, 4, 12, 13, 14, 8, 15, 16, 17, 18, 19, 20, 21, 22, 24, 40, 41, 42, 43, 44, 45, 63, 64, 65, 66, 67, 68, 69, 70, 71, 72, 73, 74, 75, 76, 77, 78, 79, 80, 81, 82, 83, 84, 85, 86] (by decide +kernel) (by decide +kernel)
set_option maxRecDepth 20000 in
theorem gX3_dispatch_X3_next : GoodIn wsX3_dispatch (wsV RX3 134 RX3 yX3_next wsX3_next) := goodIn_app (goodIn_of _ (by decide +kernel)) ggX3_dispatch_X3_next
set_option maxRecDepth 20000 in
theorem ggX3_dispatch_X3_serve : GoodIn wsX3_dispatch wsX3_serve := goodIn_r _ [49, 23, 21, 44, 50, 11, 22, 16, 51, 52, 53, 2, 54, 55, 29, 56, 57, 4, 31, 3, 58, 32, 33, 34, 8, 35, 59, 60, 61, 62, 63, 64, 65, 66, 67, 68, 69, 70, 71, 72, 73, 74, 75, 76, 77, 78, 79, 80, 81, 82, 83, 84, 85, 86] (by decide +kernel) (by decide +kernel)
set_option maxRecDepth 20000 in
theorem gX3_dispatch_X3_serve : GoodIn wsX3_dispatch (wsV RX3 137 RX3 yX3_serve wsX3_serve) := goodIn_app (goodIn_of _ (by decide +kernel)) ggX3_dispatch_X3_serve
theorem dX3_dispatch_0 : decode cX3_dispatch 0 = .ok (.aload_n 0, 1) := by decide +kernel
theorem dX3_dispatch_1 : decode cX3_dispatch 1 = .ok (.iconst 0, 1) := by decide +kernel
theorem dX3_dispatch_2 : decode cX3_dispatch 2 = .ok (.putfield 61, 3) := by decide +kernel
theorem dX3_dispatch_5 : decode cX3_dispatch 5 = .ok (.aload_n 0, 1) := by decide +kernel
theorem dX3_dispatch_6 : decode cX3_dispatch 6 = .ok (.getfield 124, 3) := by decide +kernel
theorem dX3_dispatch_9 : decode cX3_dispatch 9 = .ok (.aload_n 0, 1) := by decide +kernel
theorem dX3_dispatch_10 : decode cX3_dispatch 10 = .ok (.getfield 70, 3) := by decide +kernel
theorem dX3_dispatch_13 : decode cX3_dispatch 13 = .ok (.if_icmp .ne 5, 3) := by decide +kernel
theorem dX3_dispatch_16 : decode cX3_dispatch 16 = .ok (.iconst (-1), 1) := by decide +kernel
theorem dX3_dispatch_17 : decode cX3_dispatch 17 = .ok (.ireturn, 1) := by decide +kernel
theorem dX3_dispatch_18 : decode cX3_dispatch 18 = .ok (.aload_n 0, 1) := by decide +kernel
theorem dX3_dispatch_19 : decode cX3_dispatch 19 = .ok (.invokevirtual 127, 3) := by decide +kernel
theorem dX3_dispatch_22 : decode cX3_dispatch 22 = .ok (.istore_n 1, 1) := by decide +kernel
theorem dX3_dispatch_23 : decode cX3_dispatch 23 = .ok (.iload_n 1, 1) := by decide +kernel
theorem dX3_dispatch_24 : decode cX3_dispatch 24 = .ok (.iconst (-1), 1) := by decide +kernel
theorem dX3_dispatch_25 : decode cX3_dispatch 25 = .ok (.if_icmp .eq 7, 3) := by decide +kernel
theorem dX3_dispatch_28 : decode cX3_dispatch 28 = .ok (.iconst 1, 1) := by decide +kernel
theorem dX3_dispatch_29 : decode cX3_dispatch 29 = .ok (.goto 4, 3) := by decide +kernel
theorem dX3_dispatch_32 : decode cX3_dispatch 32 = .ok (.iconst 0, 1) := by decide +kernel
theorem dX3_dispatch_33 : decode cX3_dispatch 33 = .ok (.istore_n 2, 1) := by decide +kernel
theorem dX3_dispatch_34 : decode cX3_dispatch 34 = .ok (.iload_n 2, 1) := by decide +kernel
theorem dX3_dispatch_35 : decode cX3_dispatch 35 = .ok (.ifCond .ne 15, 3) := by decide +kernel
theorem dX3_dispatch_38 : decode cX3_dispatch 38 = .ok (.aload_n 0, 1) := by decide +kernel
theorem dX3_dispatch_39 : decode cX3_dispatch 39 = .ok (.getfield 57, 3) := by decide +kernel
theorem dX3_dispatch_42 : decode cX3_dispatch 42 = .ok (.iconst (-1), 1) := by decide +kernel
theorem dX3_dispatch_43 : decode cX3_dispatch 43 = .ok (.if_icmp .ne 7, 3) := by decide +kernel
theorem dX3_dispatch_46 : decode cX3_dispatch 46 = .ok (.aload_n 0, 1) := by decide +kernel
theorem dX3_dispatch_47 : decode cX3_dispatch 47 = .ok (.invokevirtual 131, 3) := by decide +kernel
theorem dX3_dispatch_50 : decode cX3_dispatch 50 = .ok (.iload_n 2, 1) := by decide +kernel
theorem dX3_dispatch_51 : decode cX3_dispatch 51 = .ok (.ifCond .ne 8, 3) := by decide +kernel
theorem dX3_dispatch_54 : decode cX3_dispatch 54 = .ok (.aload_n 0, 1) := by decide +kernel
theorem dX3_dispatch_55 : decode cX3_dispatch 55 = .ok (.invokevirtual 134, 3) := by decide +kernel
theorem dX3_dispatch_58 : decode cX3_dispatch 58 = .ok (.istore_n 1, 1) := by decide +kernel
theorem dX3_dispatch_59 : decode cX3_dispatch 59 = .ok (.aload_n 0, 1) := by decide +kernel
theorem dX3_dispatch_60 : decode cX3_dispatch 60 = .ok (.iload_n 1, 1) := by decide +kernel
theorem dX3_dispatch_61 : decode cX3_dispatch 61 = .ok (.iload_n 2, 1) := by decide +kernel
theorem dX3_dispatch_62 : decode cX3_dispatch 62 = .ok (.invokevirtual 137, 3) := by decide +kernel
theorem dX3_dispatch_65 : decode cX3_dispatch 65 = .ok (.iload_n 1, 1) := by decide +kernel
theorem dX3_dispatch_66 : decode cX3_dispatch 66 = .ok (.ireturn, 1) := by decide +kernel
set_option maxRecDepth 20000 in
theorem ggX3_serve_X3_waiting : GoodIn wsX3_serve wsX3_waiting := goodIn_r _ [25, 19, 7, 1, 30, 31, 32, 33, 34, 35, 36, 37, 38, 39, 40, 41, 42, 43, 44, 45, 46, 47, 48, 49, 50, 51, 52, 53] (by decide +kernel) (by decide +kernel)
set_option maxRecDepth 20000 in
theorem gX3_serve_X3_waiting : GoodIn wsX3_serve (wsV RX3 85 RX3 yX3_waiting wsX3_waiting) := goodIn_app (goodIn_of _ (by decide +kernel)) ggX3_serve_X3_waiting
set_option maxRecDepth 20000 in
theorem ggX3_serve_X3_end : GoodIn wsX3_serve wsX3_end := goodIn_r _ [29, 17, 18, 30, 31, 32, 33, 34, 35, 36, 37, 38, 39, 40, 41, 42, 43, 44, 45, 46, 47, 48, 49, 50, 51, 52, 53] (by decide +kernel) (by decide +kernel)
set_option maxRecDepth 20000 in
theorem gX3_serve_X3_end : GoodIn wsX3_serve (wsV RX3 89 RX3 yX3_end wsX3_end) := goodIn_app (goodIn_of _ (by decide +kernel)) ggX3_serve_X3_end
theorem dX3_serve_0 : decode cX3_serve 0 = .ok (.aload_n 0, 1) := by decide +kernel
theorem dX3_serve_1 : decode cX3_serve 1 = .ok (.getfield 33, 3) := by decide +kernel
theorem dX3_serve_4 : decode cX3_serve 4 = .ok (.iload_n 1, 1) := by decide +kernel
theorem dX3_serve_5 : decode cX3_serve 5 = .ok (.iaload, 1) := by decide +kernel
theorem dX3_serve_6 : decode cX3_serve 6 = .ok (.istore_n 3, 1) := by decide +kernel
theorem dX3_serve_7 : decode cX3_serve 7 = .ok (.aload_n 0, 1) := by decide +kernel
theorem dX3_serve_8 : decode cX3_serve 8 = .ok (.getfield 36, 3) := by decide +kernel
theorem dX3_serve_11 : decode cX3_serve 11 = .ok (.iload_n 1, 1) := by decide +kernel
theorem dX3_serve_12 : decode cX3_serve 12 = .ok (.iaload, 1) := by decide +kernel
theorem dX3_serve_13 : decode cX3_serve 13 = .ok (.aload_n 0, 1) := by decide +kernel
theorem dX3_serve_14 : decode cX3_serve 14 = .ok (.getfield 120, 3) := by decide +kernel
theorem dX3_serve_17 : decode cX3_serve 17 = .ok (.if_icmp .le 17, 3) := by decide +kernel
theorem dX3_serve_20 : decode cX3_serve 20 = .ok (.aload_n 0, 1) := by decide +kernel
theorem dX3_serve_21 : decode cX3_serve 21 = .ok (.getfield 36, 3) := by decide +kernel
theorem dX3_serve_24 : decode cX3_serve 24 = .ok (.iload_n 1, 1) := by decide +kernel
theorem dX3_serve_25 : decode cX3_serve 25 = .ok (.iaload, 1) := by decide +kernel
theorem dX3_serve_26 : decode cX3_serve 26 = .ok (.aload_n 0, 1) := by decide +kernel
theorem dX3_serve_27 : decode cX3_serve 27 = .ok (.getfield 120, 3) := by decide +kernel
theorem dX3_serve_30 : decode cX3_serve 30 = .ok (.isub, 1) := by decide +kernel
theorem dX3_serve_31 : decode cX3_serve 31 = .ok (.goto 14, 3) := by decide +kernel
theorem dX3_serve_34 : decode cX3_serve 34 = .ok (.aload_n 0, 1) := by decide +kernel
theorem dX3_serve_35 : decode cX3_serve 35 = .ok (.getfield 120, 3) := by decide +kernel
theorem dX3_serve_38 : decode cX3_serve 38 = .ok (.aload_n 0, 1) := by decide +kernel
theorem dX3_serve_39 : decode cX3_serve 39 = .ok (.getfield 36, 3) := by decide +kernel
theorem dX3_serve_42 : decode cX3_serve 42 = .ok (.iload_n 1, 1) := by decide +kernel
theorem dX3_serve_43 : decode cX3_serve 43 = .ok (.iaload, 1) := by decide +kernel
theorem dX3_serve_44 : decode cX3_serve 44 = .ok (.isub, 1) := by decide +kernel
theorem dX3_serve_45 : decode cX3_serve 45 = .ok (.istore 4, 2) := by decide +kernel
theorem dX3_serve_47 : decode cX3_serve 47 = .ok (.aload_n 0, 1) := by decide +kernel
theorem dX3_serve_48 : decode cX3_serve 48 = .ok (.dup, 1) := by decide +kernel
theorem dX3_serve_49 : decode cX3_serve 49 = .ok (.getfield 141, 3) := by decide +kernel
theorem dX3_serve_52 : decode cX3_serve 52 = .ok (.iload 4, 2) := by decide +kernel
theorem dX3_serve_54 : decode cX3_serve 54 = .ok (.i2l, 1) := by decide +kernel
theorem dX3_serve_55 : decode cX3_serve 55 = .ok (.ladd, 1) := by decide +kernel
theorem dX3_serve_56 : decode cX3_serve 56 = .ok (.putfield 141, 3) := by decide +kernel
theorem dX3_serve_59 : decode cX3_serve 59 = .ok (.aload_n 0, 1) := by decide +kernel
theorem dX3_serve_60 : decode cX3_serve 60 = .ok (.dup, 1) := by decide +kernel
theorem dX3_serve_61 : decode cX3_serve 61 = .ok (.getfield 107, 3) := by decide +kernel
theorem dX3_serve_64 : decode cX3_serve 64 = .ok (.iload 4, 2) := by decide +kernel
theorem dX3_serve_66 : decode cX3_serve 66 = .ok (.bipush 100, 2) := by decide +kernel
theorem dX3_serve_68 : decode cX3_serve 68 = .ok (.idiv, 1) := by decide +kernel
theorem dX3_serve_69 : decode cX3_serve 69 = .ok (.aload_n 0, 1) := by decide +kernel
theorem dX3_serve_70 : decode cX3_serve 70 = .ok (.getfield 39, 3) := by decide +kernel
theorem dX3_serve_73 : decode cX3_serve 73 = .ok (.iload_n 1, 1) := by decide +kernel
theorem dX3_serve_74 : decode cX3_serve 74 = .ok (.iaload, 1) := by decide +kernel
theorem dX3_serve_75 : decode cX3_serve 75 = .ok (.iadd, 1) := by decide +kernel
theorem dX3_serve_76 : decode cX3_serve 76 = .ok (.i2l, 1) := by decide +kernel
theorem dX3_serve_77 : decode cX3_serve 77 = .ok (.ladd, 1) := by decide +kernel
theorem dX3_serve_78 : decode cX3_serve 78 = .ok (.putfield 107, 3) := by decide +kernel
theorem dX3_serve_81 : decode cX3_serve 81 = .ok (.aload_n 0, 1) := by decide +kernel
theorem dX3_serve_82 : decode cX3_serve 82 = .ok (.aload_n 0, 1) := by decide +kernel
theorem dX3_serve_83 : decode cX3_serve 83 = .ok (.getfield 36, 3) := by decide +kernel
theorem dX3_serve_86 : decode cX3_serve 86 = .ok (.iload_n 1, 1) := by decide +kernel
theorem dX3_serve_87 : decode cX3_serve 87 = .ok (.iaload, 1) := by decide +kernel
theorem dX3_serve_88 : decode cX3_serve 88 = .ok (.aload_n 0, 1) := by decide +kernel
theorem dX3_serve_89 : decode cX3_serve 89 = .ok (.getfield 39, 3) := by decide +kernel
theorem dX3_serve_92 : decode cX3_serve 92 = .ok (.iload_n 1, 1) := by decide +kernel
theorem dX3_serve_93 : decode cX3_serve 93 = .ok (.iaload, 1) := by decide +kernel
theorem dX3_serve_94 : decode cX3_serve 94 = .ok (.iadd, 1) := by decide +kernel
theorem dX3_serve_95 : decode cX3_serve 95 = .ok (.putfield 120, 3) := by decide +kernel
theorem dX3_serve_98 : decode cX3_serve 98 = .ok (.aload_n 0, 1) := by decide +kernel
theorem dX3_serve_99 : decode cX3_serve 99 = .ok (.getfield 48, 3) := by decide +kernel
theorem dX3_serve_102 : decode cX3_serve 102 = .ok (.iload_n 1, 1) := by decide +kernel
theorem dX3_serve_103 : decode cX3_serve 103 = .ok (.iconst 1, 1) := by decide +kernel
theorem dX3_serve_104 : decode cX3_serve 104 = .ok (.bastore, 1) := by decide +kernel
theorem dX3_serve_105 : decode cX3_serve 105 = .ok (.aload_n 0, 1) := by decide +kernel
theorem dX3_serve_106 : decode cX3_serve 106 = .ok (.getfield 51, 3) := by decide +kernel
theorem dX3_serve_109 : decode cX3_serve 109 = .ok (.iload_n 1, 1) := by decide +kernel
theorem dX3_serve_110 : decode cX3_serve 110 = .ok (.iload_n 2, 1) := by decide +kernel
theorem dX3_serve_111 : decode cX3_serve 111 = .ok (.bastore, 1) := by decide +kernel
theorem dX3_serve_112 : decode cX3_serve 112 = .ok (.aload_n 0, 1) := by decide +kernel
theorem dX3_serve_113 : decode cX3_serve 113 = .ok (.dup, 1) := by decide +kernel
theorem dX3_serve_114 : decode cX3_serve 114 = .ok (.getfield 144, 3) := by decide +kernel
theorem dX3_serve_117 : decode cX3_serve 117 = .ok (.iload_n 2, 1) := by decide +kernel
theorem dX3_serve_118 : decode cX3_serve 118 = .ok (.ifCond .eq 7, 3) := by decide +kernel
theorem dX3_serve_121 : decode cX3_serve 121 = .ok (.iconst 1, 1) := by decide +kernel
theorem dX3_serve_122 : decode cX3_serve 122 = .ok (.goto 4, 3) := by decide +kernel
theorem dX3_serve_125 : decode cX3_serve 125 = .ok (.iconst 0, 1) := by decide +kernel
theorem dX3_serve_126 : decode cX3_serve 126 = .ok (.iadd, 1) := by decide +kernel
theorem dX3_serve_127 : decode cX3_serve 127 = .ok (.putfield 144, 3) := by decide +kernel
theorem dX3_serve_130 : decode cX3_serve 130 = .ok (.aload_n 0, 1) := by decide +kernel
theorem dX3_serve_131 : decode cX3_serve 131 = .ok (.getfield 42, 3) := by decide +kernel
theorem dX3_serve_134 : decode cX3_serve 134 = .ok (.aload_n 0, 1) := by decide +kernel
theorem dX3_serve_135 : decode cX3_serve 135 = .ok (.getfield 124, 3) := by decide +kernel
theorem dX3_serve_138 : decode cX3_serve 138 = .ok (.iload_n 1, 1) := by decide +kernel
theorem dX3_serve_139 : decode cX3_serve 139 = .ok (.iastore, 1) := by decide +kernel
theorem dX3_serve_140 : decode cX3_serve 140 = .ok (.aload_n 0, 1) := by decide +kernel
theorem dX3_serve_141 : decode cX3_serve 141 = .ok (.dup, 1) := by decide +kernel
theorem dX3_serve_142 : decode cX3_serve 142 = .ok (.getfield 124, 3) := by decide +kernel
theorem dX3_serve_145 : decode cX3_serve 145 = .ok (.iconst 1, 1) := by decide +kernel
theorem dX3_serve_146 : decode cX3_serve 146 = .ok (.iadd, 1) := by decide +kernel
theorem dX3_serve_147 : decode cX3_serve 147 = .ok (.putfield 124, 3) := by decide +kernel
theorem dX3_serve_150 : decode cX3_serve 150 = .ok (.ldc2_w 147, 3) := by decide +kernel
theorem dX3_serve_153 : decode cX3_serve 153 = .ok (.aload_n 0, 1) := by decide +kernel
theorem dX3_serve_154 : decode cX3_serve 154 = .ok (.getfield 39, 3) := by decide +kernel
theorem dX3_serve_157 : decode cX3_serve 157 = .ok (.iload_n 1, 1) := by decide +kernel
theorem dX3_serve_158 : decode cX3_serve 158 = .ok (.iaload, 1) := by decide +kernel
theorem dX3_serve_159 : decode cX3_serve 159 = .ok (.i2l, 1) := by decide +kernel
theorem dX3_serve_160 : decode cX3_serve 160 = .ok (.lmul, 1) := by decide +kernel
theorem dX3_serve_161 : decode cX3_serve 161 = .ok (.aload_n 0, 1) := by decide +kernel
theorem dX3_serve_162 : decode cX3_serve 162 = .ok (.getfield 13, 3) := by decide +kernel
theorem dX3_serve_165 : decode cX3_serve 165 = .ok (.iload_n 3, 1) := by decide +kernel
theorem dX3_serve_166 : decode cX3_serve 166 = .ok (.iaload, 1) := by decide +kernel
theorem dX3_serve_167 : decode cX3_serve 167 = .ok (.i2l, 1) := by decide +kernel
theorem dX3_serve_168 : decode cX3_serve 168 = .ok (.ldiv, 1) := by decide +kernel
theorem dX3_serve_169 : decode cX3_serve 169 = .ok (.lstore 5, 2) := by decide +kernel
theorem dX3_serve_171 : decode cX3_serve 171 = .ok (.aload_n 0, 1) := by decide +kernel
theorem dX3_serve_172 : decode cX3_serve 172 = .ok (.getfield 20, 3) := by decide +kernel
theorem dX3_serve_175 : decode cX3_serve 175 = .ok (.iload_n 3, 1) := by decide +kernel
theorem dX3_serve_176 : decode cX3_serve 176 = .ok (.dup2, 1) := by decide +kernel
theorem dX3_serve_177 : decode cX3_serve 177 = .ok (.laload, 1) := by decide +kernel
theorem dX3_serve_178 : decode cX3_serve 178 = .ok (.lload 5, 2) := by decide +kernel
theorem dX3_serve_180 : decode cX3_serve 180 = .ok (.ladd, 1) := by decide +kernel
theorem dX3_serve_181 : decode cX3_serve 181 = .ok (.lastore, 1) := by decide +kernel
theorem dX3_serve_182 : decode cX3_serve 182 = .ok (.aload_n 0, 1) := by decide +kernel
theorem dX3_serve_183 : decode cX3_serve 183 = .ok (.getfield 27, 3) := by decide +kernel
theorem dX3_serve_186 : decode cX3_serve 186 = .ok (.iload_n 3, 1) := by decide +kernel
theorem dX3_serve_187 : decode cX3_serve 187 = .ok (.dup2, 1) := by decide +kernel
theorem dX3_serve_188 : decode cX3_serve 188 = .ok (.laload, 1) := by decide +kernel
theorem dX3_serve_189 : decode cX3_serve 189 = .ok (.lload 5, 2) := by decide +kernel
theorem dX3_serve_191 : decode cX3_serve 191 = .ok (.ladd, 1) := by decide +kernel
theorem dX3_serve_192 : decode cX3_serve 192 = .ok (.lastore, 1) := by decide +kernel
theorem dX3_serve_193 : decode cX3_serve 193 = .ok (.aload_n 0, 1) := by decide +kernel
theorem dX3_serve_194 : decode cX3_serve 194 = .ok (.getfield 24, 3) := by decide +kernel
theorem dX3_serve_197 : decode cX3_serve 197 = .ok (.iload_n 3, 1) := by decide +kernel
theorem dX3_serve_198 : decode cX3_serve 198 = .ok (.dup2, 1) := by decide +kernel
theorem dX3_serve_199 : decode cX3_serve 199 = .ok (.laload, 1) := by decide +kernel
theorem dX3_serve_200 : decode cX3_serve 200 = .ok (.aload_n 0, 1) := by decide +kernel
theorem dX3_serve_201 : decode cX3_serve 201 = .ok (.getfield 39, 3) := by decide +kernel
theorem dX3_serve_204 : decode cX3_serve 204 = .ok (.iload_n 1, 1) := by decide +kernel
theorem dX3_serve_205 : decode cX3_serve 205 = .ok (.iaload, 1) := by decide +kernel
theorem dX3_serve_206 : decode cX3_serve 206 = .ok (.i2l, 1) := by decide +kernel
theorem dX3_serve_207 : decode cX3_serve 207 = .ok (.ladd, 1) := by decide +kernel
theorem dX3_serve_208 : decode cX3_serve 208 = .ok (.lastore, 1) := by decide +kernel
theorem dX3_serve_209 : decode cX3_serve 209 = .ok (.aload_n 0, 1) := by decide +kernel
theorem dX3_serve_210 : decode cX3_serve 210 = .ok (.getfield 57, 3) := by decide +kernel
theorem dX3_serve_213 : decode cX3_serve 213 = .ok (.iload_n 3, 1) := by decide +kernel
theorem dX3_serve_214 : decode cX3_serve 214 = .ok (.if_icmp .ne 18, 3) := by decide +kernel
theorem dX3_serve_217 : decode cX3_serve 217 = .ok (.aload_n 0, 1) := by decide +kernel
theorem dX3_serve_218 : decode cX3_serve 218 = .ok (.dup, 1) := by decide +kernel
theorem dX3_serve_219 : decode cX3_serve 219 = .ok (.getfield 92, 3) := by decide +kernel
theorem dX3_serve_222 : decode cX3_serve 222 = .ok (.aload_n 0, 1) := by decide +kernel
theorem dX3_serve_223 : decode cX3_serve 223 = .ok (.getfield 39, 3) := by decide +kernel
theorem dX3_serve_226 : decode cX3_serve 226 = .ok (.iload_n 1, 1) := by decide +kernel
theorem dX3_serve_227 : decode cX3_serve 227 = .ok (.iaload, 1) := by decide +kernel
theorem dX3_serve_228 : decode cX3_serve 228 = .ok (.isub, 1) := by decide +kernel
theorem dX3_serve_229 : decode cX3_serve 229 = .ok (.putfield 92, 3) := by decide +kernel
theorem dX3_serve_232 : decode cX3_serve 232 = .ok (.aload_n 0, 1) := by decide +kernel
theorem dX3_serve_233 : decode cX3_serve 233 = .ok (.getfield 57, 3) := by decide +kernel
theorem dX3_serve_236 : decode cX3_serve 236 = .ok (.iload_n 3, 1) := by decide +kernel
theorem dX3_serve_237 : decode cX3_serve 237 = .ok (.if_icmp .ne 22, 3) := by decide +kernel
theorem dX3_serve_240 : decode cX3_serve 240 = .ok (.aload_n 0, 1) := by decide +kernel
theorem dX3_serve_241 : decode cX3_serve 241 = .ok (.getfield 92, 3) := by decide +kernel
theorem dX3_serve_244 : decode cX3_serve 244 = .ok (.ifCond .le 11, 3) := by decide +kernel
theorem dX3_serve_247 : decode cX3_serve 247 = .ok (.aload_n 0, 1) := by decide +kernel
theorem dX3_serve_248 : decode cX3_serve 248 = .ok (.iload_n 3, 1) := by decide +kernel
theorem dX3_serve_249 : decode cX3_serve 249 = .ok (.invokevirtual 85, 3) := by decide +kernel
theorem dX3_serve_252 : decode cX3_serve 252 = .ok (.ifCond .ne 7, 3) := by decide +kernel
theorem dX3_serve_255 : decode cX3_serve 255 = .ok (.aload_n 0, 1) := by decide +kernel
theorem dX3_serve_256 : decode cX3_serve 256 = .ok (.invokevirtual 89, 3) := by decide +kernel
theorem dX3_serve_259 : decode cX3_serve 259 = .ok (.iconst 0, 1) := by decide +kernel
theorem dX3_serve_260 : decode cX3_serve 260 = .ok (.istore 7, 2) := by decide +kernel
theorem dX3_serve_262 : decode cX3_serve 262 = .ok (.iload 7, 2) := by decide +kernel
theorem dX3_serve_264 : decode cX3_serve 264 = .ok (.bipush 8, 2) := by decide +kernel
theorem dX3_serve_266 : decode cX3_serve 266 = .ok (.if_icmp .ge 72, 3) := by decide +kernel
theorem dX3_serve_269 : decode cX3_serve 269 = .ok (.aload_n 0, 1) := by decide +kernel
theorem dX3_serve_270 : decode cX3_serve 270 = .ok (.getfield 124, 3) := by decide +kernel
theorem dX3_serve_273 : decode cX3_serve 273 = .ok (.aload_n 0, 1) := by decide +kernel
theorem dX3_serve_274 : decode cX3_serve 274 = .ok (.getfield 70, 3) := by decide +kernel
theorem dX3_serve_277 : decode cX3_serve 277 = .ok (.if_icmp .ne 61, 3) := by decide +kernel
theorem dX3_serve_280 : decode cX3_serve 280 = .ok (.aload_n 0, 1) := by decide +kernel
theorem dX3_serve_281 : decode cX3_serve 281 = .ok (.getfield 20, 3) := by decide +kernel
theorem dX3_serve_284 : decode cX3_serve 284 = .ok (.bipush 8, 2) := by decide +kernel
theorem dX3_serve_286 : decode cX3_serve 286 = .ok (.aload_n 0, 1) := by decide +kernel
theorem dX3_serve_287 : decode cX3_serve 287 = .ok (.getfield 7, 3) := by decide +kernel
theorem dX3_serve_290 : decode cX3_serve 290 = .ok (.iload 7, 2) := by decide +kernel
theorem dX3_serve_292 : decode cX3_serve 292 = .ok (.baload, 1) := by decide +kernel
theorem dX3_serve_293 : decode cX3_serve 293 = .ok (.ifCond .eq 31, 3) := by decide +kernel
theorem dX3_serve_296 : decode cX3_serve 296 = .ok (.aload_n 0, 1) := by decide +kernel
theorem dX3_serve_297 : decode cX3_serve 297 = .ok (.getfield 20, 3) := by decide +kernel
theorem dX3_serve_300 : decode cX3_serve 300 = .ok (.iload 7, 2) := by decide +kernel
theorem dX3_serve_302 : decode cX3_serve 302 = .ok (.laload, 1) := by decide +kernel
theorem dX3_serve_303 : decode cX3_serve 303 = .ok (.aload_n 0, 1) := by decide +kernel
theorem dX3_serve_304 : decode cX3_serve 304 = .ok (.getfield 20, 3) := by decide +kernel
theorem dX3_serve_307 : decode cX3_serve 307 = .ok (.bipush 8, 2) := by decide +kernel
theorem dX3_serve_309 : decode cX3_serve 309 = .ok (.laload, 1) := by decide +kernel
theorem dX3_serve_310 : decode cX3_serve 310 = .ok (.lcmp, 1) := by decide +kernel
theorem dX3_serve_311 : decode cX3_serve 311 = .ok (.ifCond .le 13, 3) := by decide +kernel
theorem dX3_serve_314 : decode cX3_serve 314 = .ok (.aload_n 0, 1) := by decide +kernel
theorem dX3_serve_315 : decode cX3_serve 315 = .ok (.getfield 20, 3) := by decide +kernel
theorem dX3_serve_318 : decode cX3_serve 318 = .ok (.iload 7, 2) := by decide +kernel
theorem dX3_serve_320 : decode cX3_serve 320 = .ok (.laload, 1) := by decide +kernel
theorem dX3_serve_321 : decode cX3_serve 321 = .ok (.goto 10, 3) := by decide +kernel
theorem dX3_serve_324 : decode cX3_serve 324 = .ok (.aload_n 0, 1) := by decide +kernel
theorem dX3_serve_325 : decode cX3_serve 325 = .ok (.getfield 20, 3) := by decide +kernel
theorem dX3_serve_328 : decode cX3_serve 328 = .ok (.bipush 8, 2) := by decide +kernel
theorem dX3_serve_330 : decode cX3_serve 330 = .ok (.laload, 1) := by decide +kernel
theorem dX3_serve_331 : decode cX3_serve 331 = .ok (.lastore, 1) := by decide +kernel
theorem dX3_serve_332 : decode cX3_serve 332 = .ok (.iinc 7 1, 3) := by decide +kernel
theorem dX3_serve_335 : decode cX3_serve 335 = .ok (.goto (-73), 3) := by decide +kernel
theorem dX3_serve_338 : decode cX3_serve 338 = .ok (.return_, 1) := by decide +kernel
set_option maxRecDepth 20000 in
theorem ggX3_pass_X3_in : GoodIn wsX3_pass wsX3_in := goodIn_r _ [6] (by decide +kernel) (by decide +kernel)
set_option maxRecDepth 20000 in
theorem gX3_pass_X3_in : GoodIn wsX3_pass (va_wsS RX3 66 yX3_in wsX3_in) := goodIn_app (goodIn_of _ (by decide +kernel)) ggX3_pass_X3_in
set_option maxRecDepth 20000 in
theorem ggX3_pass_X3_fails : GoodIn wsX3_pass wsX3_fails := goodIn_r _ [10, 11, 12, 13, 14, 15, 16, 17, 18, 19, 20, 21, 22, 23, 24, 25, 26, 27, 28, 29, 30, 31, 32, 33, 34, 35] (by decide +kernel) (by decide +kernel)
set_option maxRecDepth 20000 in
theorem gX3_pass_X3_fails : GoodIn wsX3_pass (wsV RX3 77 RX3 yX3_fails wsX3_fails) := goodIn_app (goodIn_of _ (by decide +kernel)) ggX3_pass_X3_fails
theorem dX3_pass_0 : decode cX3_pass 0 = .ok (.aload_n 0, 1) := by decide +kernel
theorem dX3_pass_1 : decode cX3_pass 1 = .ok (.iload_n 1, 1) := by decide +kernel
theorem dX3_pass_2 : decode cX3_pass 2 = .ok (.i2l, 1) := by decide +kernel
theorem dX3_pass_3 : decode cX3_pass 3 = .ok (.lconst 0, 1) := by decide +kernel
theorem dX3_pass_4 : decode cX3_pass 4 = .ok (.ldc2_w 101, 3) := by decide +kernel
theorem dX3_pass_7 : decode cX3_pass 7 = .ok (.invokestatic 66, 3) := by decide +kernel
theorem dX3_pass_10 : decode cX3_pass 10 = .ok (.ifCond .ne 7, 3) := by decide +kernel
theorem dX3_pass_13 : decode cX3_pass 13 = .ok (.iconst 1, 1) := by decide +kernel
theorem dX3_pass_14 : decode cX3_pass 14 = .ok (.goto 4, 3) := by decide +kernel
theorem dX3_pass_17 : decode cX3_pass 17 = .ok (.iconst 0, 1) := by decide +kernel
theorem dX3_pass_18 : decode cX3_pass 18 = .ok (.iconst 0, 1) := by decide +kernel
theorem dX3_pass_19 : decode cX3_pass 19 = .ok (.invokevirtual 77, 3) := by decide +kernel
theorem dX3_pass_22 : decode cX3_pass 22 = .ok (.ifCond .eq 5, 3) := by decide +kernel
theorem dX3_pass_25 : decode cX3_pass 25 = .ok (.lconst 0, 1) := by decide +kernel
theorem dX3_pass_26 : decode cX3_pass 26 = .ok (.lreturn, 1) := by decide +kernel
theorem dX3_pass_27 : decode cX3_pass 27 = .ok (.aload_n 0, 1) := by decide +kernel
theorem dX3_pass_28 : decode cX3_pass 28 = .ok (.dup, 1) := by decide +kernel
theorem dX3_pass_29 : decode cX3_pass 29 = .ok (.getfield 107, 3) := by decide +kernel
theorem dX3_pass_32 : decode cX3_pass 32 = .ok (.iload_n 1, 1) := by decide +kernel
theorem dX3_pass_33 : decode cX3_pass 33 = .ok (.i2l, 1) := by decide +kernel
theorem dX3_pass_34 : decode cX3_pass 34 = .ok (.ladd, 1) := by decide +kernel
theorem dX3_pass_35 : decode cX3_pass 35 = .ok (.putfield 107, 3) := by decide +kernel
theorem dX3_pass_38 : decode cX3_pass 38 = .ok (.aload_n 0, 1) := by decide +kernel
theorem dX3_pass_39 : decode cX3_pass 39 = .ok (.getfield 107, 3) := by decide +kernel
theorem dX3_pass_42 : decode cX3_pass 42 = .ok (.lreturn, 1) := by decide +kernel
set_option maxRecDepth 20000 in
theorem ggX3_state_X3_in : GoodIn wsX3_state wsX3_in := goodIn_r _ [7] (by decide +kernel) (by decide +kernel)
set_option maxRecDepth 20000 in
theorem gX3_state_X3_in : GoodIn wsX3_state (va_wsS RX3 66 yX3_in wsX3_in) := goodIn_app (goodIn_of _ (by decide +kernel)) ggX3_state_X3_in
set_option maxRecDepth 20000 in
theorem ggX3_state_X3_fails : GoodIn wsX3_state wsX3_fails := goodIn_r _ [11, 12, 21, 22, 23, 24, 25, 26, 27, 28, 29, 30, 31, 32, 33, 34, 35, 36, 37, 38, 39, 40, 41, 42, 43, 44] (by decide +kernel) (by decide +kernel)
set_option maxRecDepth 20000 in
theorem gX3_state_X3_fails : GoodIn wsX3_state (wsV RX3 77 RX3 yX3_fails wsX3_fails) := goodIn_app (goodIn_of _ (by decide +kernel)) ggX3_state_X3_fails
set_option maxRecDepth 20000 in
theorem ggX3_state_X3_isBlocked : GoodIn wsX3_state wsX3_isBlocked := goodIn_r _ [16, 17, 18, 2, 19, 20, 21, 22, 23, 24, 25, 26, 27, 28, 29, 30, 31, 32, 33, 34, 35, 36, 37, 38, 39, 40, 41, 42, 43, 44] (by decide +kernel) (by decide +kernel)
set_option maxRecDepth 20000 in
theorem gX3_state_X3_isBlocked : GoodIn wsX3_state (wsV RX3 111 RX3 yX3_isBlocked wsX3_isBlocked) := goodIn_app (goodIn_of _ (by decide +kernel)) ggX3_state_X3_isBlocked
theorem dX3_state_0 : decode cX3_state 0 = .ok (.aload_n 0, 1) := by decide +kernel
theorem dX3_state_1 : decode cX3_state 1 = .ok (.iload_n 1, 1) := by decide +kernel
theorem dX3_state_2 : decode cX3_state 2 = .ok (.i2l, 1) := by decide +kernel
theorem dX3_state_3 : decode cX3_state 3 = .ok (.lconst 0, 1) := by decide +kernel
theorem dX3_state_4 : decode cX3_state 4 = .ok (.aload_n 0, 1) := by decide +kernel
theorem dX3_state_5 : decode cX3_state 5 = .ok (.getfield 70, 3) := by decide +kernel
theorem dX3_state_8 : decode cX3_state 8 = .ok (.iconst 1, 1) := by decide +kernel
theorem dX3_state_9 : decode cX3_state 9 = .ok (.isub, 1) := by decide +kernel
theorem dX3_state_10 : decode cX3_state 10 = .ok (.i2l, 1) := by decide +kernel
theorem dX3_state_11 : decode cX3_state 11 = .ok (.invokestatic 66, 3) := by decide +kernel
theorem dX3_state_14 : decode cX3_state 14 = .ok (.ifCond .ne 7, 3) := by decide +kernel
theorem dX3_state_17 : decode cX3_state 17 = .ok (.iconst 1, 1) := by decide +kernel
theorem dX3_state_18 : decode cX3_state 18 = .ok (.goto 4, 3) := by decide +kernel
theorem dX3_state_21 : decode cX3_state 21 = .ok (.iconst 0, 1) := by decide +kernel
theorem dX3_state_22 : decode cX3_state 22 = .ok (.iconst 0, 1) := by decide +kernel
theorem dX3_state_23 : decode cX3_state 23 = .ok (.invokevirtual 77, 3) := by decide +kernel
theorem dX3_state_26 : decode cX3_state 26 = .ok (.ifCond .eq 5, 3) := by decide +kernel
theorem dX3_state_29 : decode cX3_state 29 = .ok (.iconst 0, 1) := by decide +kernel
theorem dX3_state_30 : decode cX3_state 30 = .ok (.ireturn, 1) := by decide +kernel
theorem dX3_state_31 : decode cX3_state 31 = .ok (.aload_n 0, 1) := by decide +kernel
theorem dX3_state_32 : decode cX3_state 32 = .ok (.getfield 48, 3) := by decide +kernel
theorem dX3_state_35 : decode cX3_state 35 = .ok (.iload_n 1, 1) := by decide +kernel
theorem dX3_state_36 : decode cX3_state 36 = .ok (.baload, 1) := by decide +kernel
theorem dX3_state_37 : decode cX3_state 37 = .ok (.ifCond .eq 20, 3) := by decide +kernel
theorem dX3_state_40 : decode cX3_state 40 = .ok (.aload_n 0, 1) := by decide +kernel
theorem dX3_state_41 : decode cX3_state 41 = .ok (.getfield 51, 3) := by decide +kernel
theorem dX3_state_44 : decode cX3_state 44 = .ok (.iload_n 1, 1) := by decide +kernel
theorem dX3_state_45 : decode cX3_state 45 = .ok (.baload, 1) := by decide +kernel
theorem dX3_state_46 : decode cX3_state 46 = .ok (.ifCond .eq 7, 3) := by decide +kernel
theorem dX3_state_49 : decode cX3_state 49 = .ok (.iconst 3, 1) := by decide +kernel
theorem dX3_state_50 : decode cX3_state 50 = .ok (.goto 20, 3) := by decide +kernel
theorem dX3_state_53 : decode cX3_state 53 = .ok (.iconst 2, 1) := by decide +kernel
theorem dX3_state_54 : decode cX3_state 54 = .ok (.goto 16, 3) := by decide +kernel
theorem dX3_state_57 : decode cX3_state 57 = .ok (.aload_n 0, 1) := by decide +kernel
theorem dX3_state_58 : decode cX3_state 58 = .ok (.iload_n 1, 1) := by decide +kernel
theorem dX3_state_59 : decode cX3_state 59 = .ok (.invokevirtual 111, 3) := by decide +kernel
theorem dX3_state_62 : decode cX3_state 62 = .ok (.ifCond .eq 7, 3) := by decide +kernel
theorem dX3_state_65 : decode cX3_state 65 = .ok (.iconst 0, 1) := by decide +kernel
theorem dX3_state_66 : decode cX3_state 66 = .ok (.goto 4, 3) := by decide +kernel
theorem dX3_state_69 : decode cX3_state 69 = .ok (.iconst 1, 1) := by decide +kernel
theorem dX3_state_70 : decode cX3_state 70 = .ok (.ireturn, 1) := by decide +kernel
set_option maxRecDepth 20000 in
theorem ggX3_order_X3_in : GoodIn wsX3_order wsX3_in := goodIn_r _ [7] (by decide +kernel) (by decide +kernel)
set_option maxRecDepth 20000 in
theorem gX3_order_X3_in : GoodIn wsX3_order (va_wsS RX3 66 yX3_in wsX3_in) := goodIn_app (goodIn_of _ (by decide +kernel)) ggX3_order_X3_in
theorem dX3_order_0 : decode cX3_order 0 = .ok (.aload_n 0, 1) := by decide +kernel
theorem dX3_order_1 : decode cX3_order 1 = .ok (.iconst 0, 1) := by decide +kernel
theorem dX3_order_2 : decode cX3_order 2 = .ok (.putfield 61, 3) := by decide +kernel
theorem dX3_order_5 : decode cX3_order 5 = .ok (.iload_n 1, 1) := by decide +kernel
theorem dX3_order_6 : decode cX3_order 6 = .ok (.i2l, 1) := by decide +kernel
theorem dX3_order_7 : decode cX3_order 7 = .ok (.lconst 0, 1) := by decide +kernel
theorem dX3_order_8 : decode cX3_order 8 = .ok (.aload_n 0, 1) := by decide +kernel
theorem dX3_order_9 : decode cX3_order 9 = .ok (.getfield 124, 3) := by decide +kernel
theorem dX3_order_12 : decode cX3_order 12 = .ok (.iconst 1, 1) := by decide +kernel
theorem dX3_order_13 : decode cX3_order 13 = .ok (.isub, 1) := by decide +kernel
theorem dX3_order_14 : decode cX3_order 14 = .ok (.i2l, 1) := by decide +kernel
theorem dX3_order_15 : decode cX3_order 15 = .ok (.invokestatic 66, 3) := by decide +kernel
theorem dX3_order_18 : decode cX3_order 18 = .ok (.ifCond .eq 12, 3) := by decide +kernel
theorem dX3_order_21 : decode cX3_order 21 = .ok (.aload_n 0, 1) := by decide +kernel
theorem dX3_order_22 : decode cX3_order 22 = .ok (.getfield 42, 3) := by decide +kernel
theorem dX3_order_25 : decode cX3_order 25 = .ok (.iload_n 1, 1) := by decide +kernel
theorem dX3_order_26 : decode cX3_order 26 = .ok (.iaload, 1) := by decide +kernel
theorem dX3_order_27 : decode cX3_order 27 = .ok (.goto 4, 3) := by decide +kernel
theorem dX3_order_30 : decode cX3_order 30 = .ok (.iconst (-1), 1) := by decide +kernel
theorem dX3_order_31 : decode cX3_order 31 = .ok (.ireturn, 1) := by decide +kernel
set_option maxRecDepth 20000 in
theorem ggX3_tag_X3_isThere : GoodIn wsX3_tag wsX3_isThere := goodIn_r _ [6, 7, 8, 9, 10, 5, 11, 17, 18, 19, 20, 21, 22, 23, 24, 25, 26, 27, 28, 29, 30, 31, 32, 33, 34, 35, 36, 37, 38, 39, 40] (by decide +kernel) (by decide +kernel)
set_option maxRecDepth 20000 in
theorem gX3_tag_X3_isThere : GoodIn wsX3_tag (wsV RX3 81 RX3 yX3_isThere wsX3_isThere) := goodIn_app (goodIn_of _ (by decide +kernel)) ggX3_tag_X3_isThere
set_option maxRecDepth 20000 in
theorem ggX3_tag_X3_fails : GoodIn wsX3_tag wsX3_fails := goodIn_r _ [15, 16, 17, 18, 19, 20, 21, 22, 23, 24, 25, 26, 27, 28, 29, 30, 31, 32, 33, 34, 35, 36, 37, 38, 39, 40] (by decide +kernel) (by decide +kernel)
set_option maxRecDepth 20000 in
theorem gX3_tag_X3_fails : GoodIn wsX3_tag (wsV RX3 77 RX3 yX3_fails wsX3_fails) := goodIn_app (goodIn_of _ (by decide +kernel)) ggX3_tag_X3_fails
theorem dX3_tag_0 : decode cX3_tag 0 = .ok (.aload_n 0, 1) := by decide +kernel
theorem dX3_tag_1 : decode cX3_tag 1 = .ok (.iload_n 1, 1) := by decide +kernel
theorem dX3_tag_2 : decode cX3_tag 2 = .ok (.bipush 8, 2) := by decide +kernel
theorem dX3_tag_4 : decode cX3_tag 4 = .ok (.if_icmp .eq 15, 3) := by decide +kernel
theorem dX3_tag_7 : decode cX3_tag 7 = .ok (.aload_n 0, 1) := by decide +kernel
theorem dX3_tag_8 : decode cX3_tag 8 = .ok (.iload_n 1, 1) := by decide +kernel
theorem dX3_tag_9 : decode cX3_tag 9 = .ok (.invokevirtual 81, 3) := by decide +kernel
theorem dX3_tag_12 : decode cX3_tag 12 = .ok (.ifCond .ne 7, 3) := by decide +kernel
theorem dX3_tag_15 : decode cX3_tag 15 = .ok (.iconst 1, 1) := by decide +kernel
theorem dX3_tag_16 : decode cX3_tag 16 = .ok (.goto 4, 3) := by decide +kernel
theorem dX3_tag_19 : decode cX3_tag 19 = .ok (.iconst 0, 1) := by decide +kernel
theorem dX3_tag_20 : decode cX3_tag 20 = .ok (.iconst 0, 1) := by decide +kernel
theorem dX3_tag_21 : decode cX3_tag 21 = .ok (.invokevirtual 77, 3) := by decide +kernel
theorem dX3_tag_24 : decode cX3_tag 24 = .ok (.ifCond .eq 5, 3) := by decide +kernel
theorem dX3_tag_27 : decode cX3_tag 27 = .ok (.lconst 0, 1) := by decide +kernel
theorem dX3_tag_28 : decode cX3_tag 28 = .ok (.lreturn, 1) := by decide +kernel
theorem dX3_tag_29 : decode cX3_tag 29 = .ok (.aload_n 0, 1) := by decide +kernel
theorem dX3_tag_30 : decode cX3_tag 30 = .ok (.getfield 20, 3) := by decide +kernel
theorem dX3_tag_33 : decode cX3_tag 33 = .ok (.iload_n 1, 1) := by decide +kernel
theorem dX3_tag_34 : decode cX3_tag 34 = .ok (.laload, 1) := by decide +kernel
theorem dX3_tag_35 : decode cX3_tag 35 = .ok (.lreturn, 1) := by decide +kernel
set_option maxRecDepth 20000 in
theorem ggX3_lag_X3_isThere : GoodIn wsX3_lag wsX3_isThere := goodIn_r _ [7, 8, 9, 10, 11, 6, 12, 25, 26, 27, 28, 29, 30, 31, 32, 33, 34, 35, 36, 37, 38, 39, 40, 41, 42, 43, 44, 45, 46, 47, 48] (by decide +kernel) (by decide +kernel)
set_option maxRecDepth 20000 in
theorem gX3_lag_X3_isThere : GoodIn wsX3_lag (wsV RX3 81 RX3 yX3_isThere wsX3_isThere) := goodIn_app (goodIn_of _ (by decide +kernel)) ggX3_lag_X3_isThere
set_option maxRecDepth 20000 in
theorem ggX3_lag_X3_fails : GoodIn wsX3_lag wsX3_fails := goodIn_r _ [16, 17, 25, 26, 27, 28, 29, 30, 31, 32, 33, 34, 35, 36, 37, 38, 39, 40, 41, 42, 43, 44, 45, 46, 47, 48] (by decide +kernel) (by decide +kernel)
set_option maxRecDepth 20000 in
theorem gX3_lag_X3_fails : GoodIn wsX3_lag (wsV RX3 77 RX3 yX3_fails wsX3_fails) := goodIn_app (goodIn_of _ (by decide +kernel)) ggX3_lag_X3_fails
set_option maxRecDepth 20000 in
theorem ggX3_lag_X3_waiting : GoodIn wsX3_lag wsX3_waiting := goodIn_r _ [21, 22, 23, 24, 25, 26, 27, 28, 29, 30, 31, 32, 33, 34, 35, 36, 37, 38, 39, 40, 41, 42, 43, 44, 45, 46, 47, 48] (by decide +kernel) (by decide +kernel)
set_option maxRecDepth 20000 in
theorem gX3_lag_X3_waiting : GoodIn wsX3_lag (wsV RX3 85 RX3 yX3_waiting wsX3_waiting) := goodIn_app (goodIn_of _ (by decide +kernel)) ggX3_lag_X3_waiting
theorem dX3_lag_0 : decode cX3_lag 0 = .ok (.aload_n 0, 1) := by decide +kernel
theorem dX3_lag_1 : decode cX3_lag 1 = .ok (.aload_n 0, 1) := by decide +kernel
theorem dX3_lag_2 : decode cX3_lag 2 = .ok (.iload_n 1, 1) := by decide +kernel
theorem dX3_lag_3 : decode cX3_lag 3 = .ok (.invokevirtual 81, 3) := by decide +kernel
theorem dX3_lag_6 : decode cX3_lag 6 = .ok (.ifCond .eq 16, 3) := by decide +kernel
theorem dX3_lag_9 : decode cX3_lag 9 = .ok (.aload_n 0, 1) := by decide +kernel
theorem dX3_lag_10 : decode cX3_lag 10 = .ok (.iload_n 2, 1) := by decide +kernel
theorem dX3_lag_11 : decode cX3_lag 11 = .ok (.invokevirtual 81, 3) := by decide +kernel
theorem dX3_lag_14 : decode cX3_lag 14 = .ok (.ifCond .eq 8, 3) := by decide +kernel
theorem dX3_lag_17 : decode cX3_lag 17 = .ok (.iload_n 1, 1) := by decide +kernel
theorem dX3_lag_18 : decode cX3_lag 18 = .ok (.iload_n 2, 1) := by decide +kernel
theorem dX3_lag_19 : decode cX3_lag 19 = .ok (.if_icmp .ne 7, 3) := by decide +kernel
theorem dX3_lag_22 : decode cX3_lag 22 = .ok (.iconst 1, 1) := by decide +kernel
theorem dX3_lag_23 : decode cX3_lag 23 = .ok (.goto 4, 3) := by decide +kernel
theorem dX3_lag_26 : decode cX3_lag 26 = .ok (.iconst 0, 1) := by decide +kernel
theorem dX3_lag_27 : decode cX3_lag 27 = .ok (.iconst 0, 1) := by decide +kernel
theorem dX3_lag_28 : decode cX3_lag 28 = .ok (.invokevirtual 77, 3) := by decide +kernel
theorem dX3_lag_31 : decode cX3_lag 31 = .ok (.ifCond .eq 5, 3) := by decide +kernel
theorem dX3_lag_34 : decode cX3_lag 34 = .ok (.lconst 0, 1) := by decide +kernel
theorem dX3_lag_35 : decode cX3_lag 35 = .ok (.lreturn, 1) := by decide +kernel
theorem dX3_lag_36 : decode cX3_lag 36 = .ok (.aload_n 0, 1) := by decide +kernel
theorem dX3_lag_37 : decode cX3_lag 37 = .ok (.iload_n 1, 1) := by decide +kernel
theorem dX3_lag_38 : decode cX3_lag 38 = .ok (.invokevirtual 85, 3) := by decide +kernel
theorem dX3_lag_41 : decode cX3_lag 41 = .ok (.ifCond .eq 11, 3) := by decide +kernel
theorem dX3_lag_44 : decode cX3_lag 44 = .ok (.aload_n 0, 1) := by decide +kernel
theorem dX3_lag_45 : decode cX3_lag 45 = .ok (.iload_n 2, 1) := by decide +kernel
theorem dX3_lag_46 : decode cX3_lag 46 = .ok (.invokevirtual 85, 3) := by decide +kernel
theorem dX3_lag_49 : decode cX3_lag 49 = .ok (.ifCond .ne 5, 3) := by decide +kernel
theorem dX3_lag_52 : decode cX3_lag 52 = .ok (.lconst 0, 1) := by decide +kernel
theorem dX3_lag_53 : decode cX3_lag 53 = .ok (.lreturn, 1) := by decide +kernel
theorem dX3_lag_54 : decode cX3_lag 54 = .ok (.aload_n 0, 1) := by decide +kernel
theorem dX3_lag_55 : decode cX3_lag 55 = .ok (.getfield 27, 3) := by decide +kernel
theorem dX3_lag_58 : decode cX3_lag 58 = .ok (.iload_n 1, 1) := by decide +kernel
theorem dX3_lag_59 : decode cX3_lag 59 = .ok (.laload, 1) := by decide +kernel
theorem dX3_lag_60 : decode cX3_lag 60 = .ok (.aload_n 0, 1) := by decide +kernel
theorem dX3_lag_61 : decode cX3_lag 61 = .ok (.getfield 30, 3) := by decide +kernel
theorem dX3_lag_64 : decode cX3_lag 64 = .ok (.bipush 8, 2) := by decide +kernel
theorem dX3_lag_66 : decode cX3_lag 66 = .ok (.iload_n 1, 1) := by decide +kernel
theorem dX3_lag_67 : decode cX3_lag 67 = .ok (.imul, 1) := by decide +kernel
theorem dX3_lag_68 : decode cX3_lag 68 = .ok (.iload_n 2, 1) := by decide +kernel
theorem dX3_lag_69 : decode cX3_lag 69 = .ok (.iadd, 1) := by decide +kernel
theorem dX3_lag_70 : decode cX3_lag 70 = .ok (.laload, 1) := by decide +kernel
theorem dX3_lag_71 : decode cX3_lag 71 = .ok (.lsub, 1) := by decide +kernel
theorem dX3_lag_72 : decode cX3_lag 72 = .ok (.aload_n 0, 1) := by decide +kernel
theorem dX3_lag_73 : decode cX3_lag 73 = .ok (.getfield 27, 3) := by decide +kernel
theorem dX3_lag_76 : decode cX3_lag 76 = .ok (.iload_n 2, 1) := by decide +kernel
theorem dX3_lag_77 : decode cX3_lag 77 = .ok (.laload, 1) := by decide +kernel
theorem dX3_lag_78 : decode cX3_lag 78 = .ok (.aload_n 0, 1) := by decide +kernel
theorem dX3_lag_79 : decode cX3_lag 79 = .ok (.getfield 30, 3) := by decide +kernel
theorem dX3_lag_82 : decode cX3_lag 82 = .ok (.bipush 8, 2) := by decide +kernel
theorem dX3_lag_84 : decode cX3_lag 84 = .ok (.iload_n 2, 1) := by decide +kernel
theorem dX3_lag_85 : decode cX3_lag 85 = .ok (.imul, 1) := by decide +kernel
theorem dX3_lag_86 : decode cX3_lag 86 = .ok (.iload_n 1, 1) := by decide +kernel
theorem dX3_lag_87 : decode cX3_lag 87 = .ok (.iadd, 1) := by decide +kernel
theorem dX3_lag_88 : decode cX3_lag 88 = .ok (.laload, 1) := by decide +kernel
theorem dX3_lag_89 : decode cX3_lag 89 = .ok (.lsub, 1) := by decide +kernel
theorem dX3_lag_90 : decode cX3_lag 90 = .ok (.lsub, 1) := by decide +kernel
theorem dX3_lag_91 : decode cX3_lag 91 = .ok (.lreturn, 1) := by decide +kernel
set_option maxRecDepth 20000 in
theorem ggX3_count_X3_in : GoodIn wsX3_count wsX3_in := goodIn_r _ [19] (by decide +kernel) (by decide +kernel)
set_option maxRecDepth 20000 in
theorem gX3_count_X3_in : GoodIn wsX3_count (va_wsS RX3 66 yX3_in wsX3_in) := goodIn_app (goodIn_of _ (by decide +kernel)) ggX3_count_X3_in
set_option maxRecDepth 20000 in
theorem ggX3_count_X3_waiting : GoodIn wsX3_count wsX3_waiting := goodIn_r _ [23, 3, 24, 25, 26, 27, 28, 29, 30, 31, 32, 33, 34, 35, 36, 37, 38, 39, 40, 41, 42, 43, 44, 45, 46, 47, 48, 49] (by decide +kernel) (by decide +kernel)
set_option maxRecDepth 20000 in
theorem gX3_count_X3_waiting : GoodIn wsX3_count (wsV RX3 85 RX3 yX3_waiting wsX3_waiting) := goodIn_app (goodIn_of _ (by decide +kernel)) ggX3_count_X3_waiting
theorem dX3_count_0 : decode cX3_count 0 = .ok (.aload_n 0, 1) := by decide +kernel
theorem dX3_count_1 : decode cX3_count 1 = .ok (.iconst 0, 1) := by decide +kernel
theorem dX3_count_2 : decode cX3_count 2 = .ok (.putfield 61, 3) := by decide +kernel
theorem dX3_count_5 : decode cX3_count 5 = .ok (.lconst 0, 1) := by decide +kernel
theorem dX3_count_6 : decode cX3_count 6 = .ok (.lstore_n 2, 1) := by decide +kernel
theorem dX3_count_7 : decode cX3_count 7 = .ok (.iload_n 1, 1) := by decide +kernel
theorem dX3_count_8 : decode cX3_count 8 = .ok (.tableswitch 130 0 7 #[48, 84, 95, 101, 107, 113, 118, 124], 48) := by decide +kernel
theorem dX3_count_56 : decode cX3_count 56 = .ok (.iconst 0, 1) := by decide +kernel
theorem dX3_count_57 : decode cX3_count 57 = .ok (.istore 4, 2) := by decide +kernel
theorem dX3_count_59 : decode cX3_count 59 = .ok (.iload 4, 2) := by decide +kernel
theorem dX3_count_61 : decode cX3_count 61 = .ok (.bipush 8, 2) := by decide +kernel
theorem dX3_count_63 : decode cX3_count 63 = .ok (.if_icmp .ge 27, 3) := by decide +kernel
theorem dX3_count_66 : decode cX3_count 66 = .ok (.lload_n 2, 1) := by decide +kernel
theorem dX3_count_67 : decode cX3_count 67 = .ok (.aload_n 0, 1) := by decide +kernel
theorem dX3_count_68 : decode cX3_count 68 = .ok (.getfield 7, 3) := by decide +kernel
theorem dX3_count_71 : decode cX3_count 71 = .ok (.iload 4, 2) := by decide +kernel
theorem dX3_count_73 : decode cX3_count 73 = .ok (.baload, 1) := by decide +kernel
theorem dX3_count_74 : decode cX3_count 74 = .ok (.ifCond .eq 7, 3) := by decide +kernel
theorem dX3_count_77 : decode cX3_count 77 = .ok (.lconst 1, 1) := by decide +kernel
theorem dX3_count_78 : decode cX3_count 78 = .ok (.goto 4, 3) := by decide +kernel
theorem dX3_count_81 : decode cX3_count 81 = .ok (.lconst 0, 1) := by decide +kernel
theorem dX3_count_82 : decode cX3_count 82 = .ok (.ladd, 1) := by decide +kernel
theorem dX3_count_83 : decode cX3_count 83 = .ok (.lstore_n 2, 1) := by decide +kernel
theorem dX3_count_84 : decode cX3_count 84 = .ok (.iinc 4 1, 3) := by decide +kernel
theorem dX3_count_87 : decode cX3_count 87 = .ok (.goto (-28), 3) := by decide +kernel
theorem dX3_count_90 : decode cX3_count 90 = .ok (.lload_n 2, 1) := by decide +kernel
theorem dX3_count_91 : decode cX3_count 91 = .ok (.lreturn, 1) := by decide +kernel
theorem dX3_count_92 : decode cX3_count 92 = .ok (.aload_n 0, 1) := by decide +kernel
theorem dX3_count_93 : decode cX3_count 93 = .ok (.getfield 70, 3) := by decide +kernel
theorem dX3_count_96 : decode cX3_count 96 = .ok (.aload_n 0, 1) := by decide +kernel
theorem dX3_count_97 : decode cX3_count 97 = .ok (.getfield 124, 3) := by decide +kernel
theorem dX3_count_100 : decode cX3_count 100 = .ok (.isub, 1) := by decide +kernel
theorem dX3_count_101 : decode cX3_count 101 = .ok (.i2l, 1) := by decide +kernel
theorem dX3_count_102 : decode cX3_count 102 = .ok (.lreturn, 1) := by decide +kernel
theorem dX3_count_103 : decode cX3_count 103 = .ok (.aload_n 0, 1) := by decide +kernel
theorem dX3_count_104 : decode cX3_count 104 = .ok (.getfield 124, 3) := by decide +kernel
theorem dX3_count_107 : decode cX3_count 107 = .ok (.i2l, 1) := by decide +kernel
theorem dX3_count_108 : decode cX3_count 108 = .ok (.lreturn, 1) := by decide +kernel
theorem dX3_count_109 : decode cX3_count 109 = .ok (.aload_n 0, 1) := by decide +kernel
theorem dX3_count_110 : decode cX3_count 110 = .ok (.getfield 144, 3) := by decide +kernel
theorem dX3_count_113 : decode cX3_count 113 = .ok (.i2l, 1) := by decide +kernel
theorem dX3_count_114 : decode cX3_count 114 = .ok (.lreturn, 1) := by decide +kernel
theorem dX3_count_115 : decode cX3_count 115 = .ok (.aload_n 0, 1) := by decide +kernel
theorem dX3_count_116 : decode cX3_count 116 = .ok (.getfield 120, 3) := by decide +kernel
theorem dX3_count_119 : decode cX3_count 119 = .ok (.i2l, 1) := by decide +kernel
theorem dX3_count_120 : decode cX3_count 120 = .ok (.lreturn, 1) := by decide +kernel
theorem dX3_count_121 : decode cX3_count 121 = .ok (.aload_n 0, 1) := by decide +kernel
theorem dX3_count_122 : decode cX3_count 122 = .ok (.getfield 141, 3) := by decide +kernel
theorem dX3_count_125 : decode cX3_count 125 = .ok (.lreturn, 1) := by decide +kernel
theorem dX3_count_126 : decode cX3_count 126 = .ok (.aload_n 0, 1) := by decide +kernel
theorem dX3_count_127 : decode cX3_count 127 = .ok (.getfield 57, 3) := by decide +kernel
theorem dX3_count_130 : decode cX3_count 130 = .ok (.i2l, 1) := by decide +kernel
theorem dX3_count_131 : decode cX3_count 131 = .ok (.lreturn, 1) := by decide +kernel
theorem dX3_count_132 : decode cX3_count 132 = .ok (.aload_n 0, 1) := by decide +kernel
theorem dX3_count_133 : decode cX3_count 133 = .ok (.getfield 92, 3) := by decide +kernel
theorem dX3_count_136 : decode cX3_count 136 = .ok (.i2l, 1) := by decide +kernel
theorem dX3_count_137 : decode cX3_count 137 = .ok (.lreturn, 1) := by decide +kernel
theorem dX3_count_138 : decode cX3_count 138 = .ok (.iload_n 1, 1) := by decide +kernel
theorem dX3_count_139 : decode cX3_count 139 = .ok (.i2l, 1) := by decide +kernel
theorem dX3_count_140 : decode cX3_count 140 = .ok (.ldc2_w 149, 3) := by decide +kernel
theorem dX3_count_143 : decode cX3_count 143 = .ok (.ldc2_w 151, 3) := by decide +kernel
theorem dX3_count_146 : decode cX3_count 146 = .ok (.invokestatic 66, 3) := by decide +kernel
theorem dX3_count_149 : decode cX3_count 149 = .ok (.ifCond .eq 13, 3) := by decide +kernel
theorem dX3_count_152 : decode cX3_count 152 = .ok (.aload_n 0, 1) := by decide +kernel
theorem dX3_count_153 : decode cX3_count 153 = .ok (.getfield 24, 3) := by decide +kernel
theorem dX3_count_156 : decode cX3_count 156 = .ok (.iload_n 1, 1) := by decide +kernel
theorem dX3_count_157 : decode cX3_count 157 = .ok (.bipush 8, 2) := by decide +kernel
theorem dX3_count_159 : decode cX3_count 159 = .ok (.isub, 1) := by decide +kernel
theorem dX3_count_160 : decode cX3_count 160 = .ok (.laload, 1) := by decide +kernel
theorem dX3_count_161 : decode cX3_count 161 = .ok (.lreturn, 1) := by decide +kernel
theorem dX3_count_162 : decode cX3_count 162 = .ok (.iload_n 1, 1) := by decide +kernel
theorem dX3_count_163 : decode cX3_count 163 = .ok (.i2l, 1) := by decide +kernel
theorem dX3_count_164 : decode cX3_count 164 = .ok (.ldc2_w 153, 3) := by decide +kernel
theorem dX3_count_167 : decode cX3_count 167 = .ok (.ldc2_w 155, 3) := by decide +kernel
theorem dX3_count_170 : decode cX3_count 170 = .ok (.invokestatic 66, 3) := by decide +kernel
theorem dX3_count_173 : decode cX3_count 173 = .ok (.ifCond .eq 15, 3) := by decide +kernel
theorem dX3_count_176 : decode cX3_count 176 = .ok (.aload_n 0, 1) := by decide +kernel
theorem dX3_count_177 : decode cX3_count 177 = .ok (.iload_n 1, 1) := by decide +kernel
theorem dX3_count_178 : decode cX3_count 178 = .ok (.bipush 16, 2) := by decide +kernel
theorem dX3_count_180 : decode cX3_count 180 = .ok (.isub, 1) := by decide +kernel
theorem dX3_count_181 : decode cX3_count 181 = .ok (.invokevirtual 85, 3) := by decide +kernel
theorem dX3_count_184 : decode cX3_count 184 = .ok (.i2l, 1) := by decide +kernel
theorem dX3_count_185 : decode cX3_count 185 = .ok (.goto 6, 3) := by decide +kernel
theorem dX3_count_188 : decode cX3_count 188 = .ok (.ldc2_w 157, 3) := by decide +kernel
theorem dX3_count_191 : decode cX3_count 191 = .ok (.lreturn, 1) := by decide +kernel
theorem dJ9_abs_0f7a4_0 : decode cJ9_abs_0f7a4 0 = .ok (.iload_n 0, 1) := by decide +kernel
theorem dJ9_abs_0f7a4_1 : decode cJ9_abs_0f7a4 1 = .ok (.ifCond .ge 8, 3) := by decide +kernel
theorem dJ9_abs_0f7a4_4 : decode cJ9_abs_0f7a4 4 = .ok (.iload_n 0, 1) := by decide +kernel
theorem dJ9_abs_0f7a4_5 : decode cJ9_abs_0f7a4 5 = .ok (.ineg, 1) := by decide +kernel
theorem dJ9_abs_0f7a4_6 : decode cJ9_abs_0f7a4 6 = .ok (.goto 4, 3) := by decide +kernel
theorem dJ9_abs_0f7a4_9 : decode cJ9_abs_0f7a4 9 = .ok (.iload_n 0, 1) := by decide +kernel
theorem dJ9_abs_0f7a4_10 : decode cJ9_abs_0f7a4 10 = .ok (.ireturn, 1) := by decide +kernel
theorem dJ9_max_f86c9_0 : decode cJ9_max_f86c9 0 = .ok (.lload_n 0, 1) := by decide +kernel
theorem dJ9_max_f86c9_1 : decode cJ9_max_f86c9 1 = .ok (.lload_n 2, 1) := by decide +kernel
theorem dJ9_max_f86c9_2 : decode cJ9_max_f86c9 2 = .ok (.lcmp, 1) := by decide +kernel
theorem dJ9_max_f86c9_3 : decode cJ9_max_f86c9 3 = .ok (.ifCond .lt 7, 3) := by decide +kernel
theorem dJ9_max_f86c9_6 : decode cJ9_max_f86c9 6 = .ok (.lload_n 0, 1) := by decide +kernel
theorem dJ9_max_f86c9_7 : decode cJ9_max_f86c9 7 = .ok (.goto 4, 3) := by decide +kernel
theorem dJ9_max_f86c9_10 : decode cJ9_max_f86c9 10 = .ok (.lload_n 2, 1) := by decide +kernel
theorem dJ9_max_f86c9_11 : decode cJ9_max_f86c9 11 = .ok (.lreturn, 1) := by decide +kernel
set_option maxRecDepth 20000 in
theorem ggL_client_X2_client : GoodIn wsL_client wsX2_client := goodIn_ca (goodIn_r _ [6, 7, 8, 9, 10, 11, 12, 5, 13, 14, 15, 16, 17, 18, 19, 20, 21, 22, 23, 24, 25, 26, 27, 28, 29, 30, 31, 32, 33, 34, 35, 36, 37, 38, 39, 40, 41, 42, 43, 44, 45] (by decide +kernel) (by decide +kernel)) (goodIn_sub (fun _ h => List.mem_cons_of_mem _ (List.mem_append_right _ h)) (by decide +kernel))
set_option maxRecDepth 20000 in
theorem gL_client_X2_client : GoodIn wsL_client (wsV RL 7 RX2 yX2_client wsX2_client) := goodIn_app (goodIn_of _ (by decide +kernel)) ggL_client_X2_client
theorem dL_client_0 : decode cL_client 0 = .ok (.aload_n 0, 1) := by decide +kernel
theorem dL_client_1 : decode cL_client 1 = .ok (.iload_n 1, 1) := by decide +kernel
theorem dL_client_2 : decode cL_client 2 = .ok (.iload_n 2, 1) := by decide +kernel
theorem dL_client_3 : decode cL_client 3 = .ok (.iload_n 3, 1) := by decide +kernel
theorem dL_client_4 : decode cL_client 4 = .ok (.invokevirtual 7, 3) := by decide +kernel
theorem dL_client_7 : decode cL_client 7 = .ok (.goto 7, 3) := by decide +kernel
theorem dL_client_10 : decode cL_client 10 = .ok (.astore 4, 2) := by decide +kernel
theorem dL_client_12 : decode cL_client 12 = .ok (.iconst 1, 1) := by decide +kernel
theorem dL_client_13 : decode cL_client 13 = .ok (.ireturn, 1) := by decide +kernel
theorem dL_client_14 : decode cL_client 14 = .ok (.iconst 0, 1) := by decide +kernel
theorem dL_client_15 : decode cL_client 15 = .ok (.ireturn, 1) := by decide +kernel
set_option maxRecDepth 20000 in
theorem ggL_gone_X2_gone : GoodIn wsL_gone wsX2_gone := goodIn_ca (goodIn_ca (goodIn_r _ [7, 8, 9, 10, 11, 12, 13, 14, 6, 15, 16, 17, 18, 19, 20, 21, 22, 23, 24, 25, 26, 27, 28, 29, 30, 31, 32, 33, 34, 35, 36, 37, 38, 39, 40, 41, 42, 43, 44, 45, 46, 47, 48, 49, 50, 51, 52, 53, 54, 55, 56] (by decide +kernel) (by decide +kernel)) (goodIn_sub (fun _ h => List.mem_cons_of_mem _ (List.mem_append_left _ (List.mem_append_right _ h))) (by decide +kernel))) (goodIn_sub (fun _ h => List.mem_cons_of_mem _ (List.mem_append_right _ h)) (by decide +kernel))
set_option maxRecDepth 20000 in
theorem gL_gone_X2_gone : GoodIn wsL_gone (wsV RL 15 RX2 yX2_gone wsX2_gone) := goodIn_app (goodIn_of _ (by decide +kernel)) ggL_gone_X2_gone
theorem dL_gone_0 : decode cL_gone 0 = .ok (.aload_n 0, 1) := by decide +kernel
theorem dL_gone_1 : decode cL_gone 1 = .ok (.iload_n 1, 1) := by decide +kernel
theorem dL_gone_2 : decode cL_gone 2 = .ok (.invokevirtual 15, 3) := by decide +kernel
theorem dL_gone_5 : decode cL_gone 5 = .ok (.goto 9, 3) := by decide +kernel
theorem dL_gone_8 : decode cL_gone 8 = .ok (.astore_n 2, 1) := by decide +kernel
theorem dL_gone_9 : decode cL_gone 9 = .ok (.iconst 1, 1) := by decide +kernel
theorem dL_gone_10 : decode cL_gone 10 = .ok (.ireturn, 1) := by decide +kernel
theorem dL_gone_11 : decode cL_gone 11 = .ok (.astore_n 2, 1) := by decide +kernel
theorem dL_gone_12 : decode cL_gone 12 = .ok (.iconst 2, 1) := by decide +kernel
theorem dL_gone_13 : decode cL_gone 13 = .ok (.ireturn, 1) := by decide +kernel
theorem dL_gone_14 : decode cL_gone 14 = .ok (.iconst 0, 1) := by decide +kernel
theorem dL_gone_15 : decode cL_gone 15 = .ok (.ireturn, 1) := by decide +kernel
set_option maxRecDepth 20000 in
theorem ggL_submit_X2_submit : GoodIn wsL_submit wsX2_submit := goodIn_ca (goodIn_r _ [6, 7, 8, 9, 10, 11, 12, 13, 14, 15, 16, 5, 17, 18, 19, 20, 21, 22, 23, 24, 25, 26, 27, 28, 29, 30, 31, 32, 33, 34, 35, 36, 37, 38, 39, 40, 41, 42, 43, 44, 45, 46, 47, 48, 49, 50, 51, 52, 53, 54, 55, 56, 57, 58, 59, 60, 61, 62, 63, 64, 65, 66, 67, 68, 69, 70, 71, 72, 73, 74, 75, 76, 77, 78, 79, 80, 81, 82, 83, 84, 85, 86, 87, 88, 89, 90, 91, 92, 93, 94, 95, 96, 97] (by decide +kernel) (by decide +kernel)) (goodIn_sub (fun _ h => List.mem_cons_of_mem _ (List.mem_append_right _ h)) (by decide +kernel))
set_option maxRecDepth 20000 in
theorem gL_submit_X2_submit : GoodIn wsL_submit (wsV RL 21 RX2 yX2_submit wsX2_submit) := goodIn_app (goodIn_of _ (by decide +kernel)) ggL_submit_X2_submit
theorem dL_submit_0 : decode cL_submit 0 = .ok (.aload 6, 2) := by decide +kernel
end
section
theorem dL_submit_2 : decode cL_submit 2 = .ok (.iconst 0, 1) := by decide +kernel
theorem dL_submit_3 : decode cL_submit 3 = .ok (.aload_n 0, 1) := by decide +kernel
theorem dL_submit_4 : decode cL_submit 4 = .ok (.iload_n 1, 1) := by decide +kernel
theorem dL_submit_5 : decode cL_submit 5 = .ok (.iload_n 2, 1) := by decide +kernel
theorem dL_submit_6 : decode cL_submit 6 = .ok (.iload_n 3, 1) := by decide +kernel
theorem dL_submit_7 : decode cL_submit 7 = .ok (.iload 4, 2) := by decide +kernel
theorem dL_submit_9 : decode cL_submit 9 = .ok (.iload 5, 2) := by decide +kernel
theorem dL_submit_11 : decode cL_submit 11 = .ok (.invokevirtual 21, 3) := by decide +kernel
theorem dL_submit_14 : decode cL_submit 14 = .ok (.i2l, 1) := by decide +kernel
theorem dL_submit_15 : decode cL_submit 15 = .ok (.lastore, 1) := by decide +kernel
theorem dL_submit_16 : decode cL_submit 16 = .ok (.goto 7, 3) := by decide +kernel
theorem dL_submit_19 : decode cL_submit 19 = .ok (.astore 7, 2) := by decide +kernel
theorem dL_submit_21 : decode cL_submit 21 = .ok (.iconst 1, 1) := by decide +kernel
theorem dL_submit_22 : decode cL_submit 22 = .ok (.ireturn, 1) := by decide +kernel
theorem dL_submit_23 : decode cL_submit 23 = .ok (.iconst 0, 1) := by decide +kernel
theorem dL_submit_24 : decode cL_submit 24 = .ok (.ireturn, 1) := by decide +kernel
set_option maxRecDepth 20000 in
theorem ggL_pass_X2_pass : GoodIn wsL_pass wsX2_pass := goodIn_ca (goodIn_r _ [6, 7, 8, 9, 10, 11, 12, 5, 13, 14, 15, 16, 17, 18, 19, 20, 21] (by decide +kernel) (by decide +kernel)) (goodIn_sub (fun _ h => List.mem_cons_of_mem _ (List.mem_append_right _ h)) (by decide +kernel))
set_option maxRecDepth 20000 in
theorem gL_pass_X2_pass : GoodIn wsL_pass (wsV RL 25 RX2 yX2_pass wsX2_pass) := goodIn_app (goodIn_of _ (by decide +kernel)) ggL_pass_X2_pass
theorem dL_pass_0 : decode cL_pass 0 = .ok (.aload_n 2, 1) := by decide +kernel
theorem dL_pass_1 : decode cL_pass 1 = .ok (.iconst 0, 1) := by decide +kernel
theorem dL_pass_2 : decode cL_pass 2 = .ok (.aload_n 0, 1) := by decide +kernel
theorem dL_pass_3 : decode cL_pass 3 = .ok (.iload_n 1, 1) := by decide +kernel
theorem dL_pass_4 : decode cL_pass 4 = .ok (.invokevirtual 25, 3) := by decide +kernel
theorem dL_pass_7 : decode cL_pass 7 = .ok (.lastore, 1) := by decide +kernel
theorem dL_pass_8 : decode cL_pass 8 = .ok (.goto 6, 3) := by decide +kernel
theorem dL_pass_11 : decode cL_pass 11 = .ok (.astore_n 3, 1) := by decide +kernel
theorem dL_pass_12 : decode cL_pass 12 = .ok (.iconst 1, 1) := by decide +kernel
theorem dL_pass_13 : decode cL_pass 13 = .ok (.ireturn, 1) := by decide +kernel
theorem dL_pass_14 : decode cL_pass 14 = .ok (.iconst 0, 1) := by decide +kernel
theorem dL_pass_15 : decode cL_pass 15 = .ok (.ireturn, 1) := by decide +kernel
set_option maxRecDepth 20000 in
theorem ggL_state_X2_state : GoodIn wsL_state wsX2_state := goodIn_ca (goodIn_r _ [6, 7, 8, 9, 10, 11, 12, 13, 14, 15, 16, 17, 18, 19, 20, 21, 22, 23, 24, 25, 26, 27, 28, 29, 30, 31, 32, 33, 34, 35, 36, 37, 38, 39, 40, 41, 42] (by decide +kernel) (by decide +kernel)) (goodIn_sub (fun _ h => List.mem_cons_of_mem _ (List.mem_append_right _ h)) (by decide +kernel))
set_option maxRecDepth 20000 in
theorem gL_state_X2_state : GoodIn wsL_state (wsV RL 29 RX2 yX2_state wsX2_state) := goodIn_app (goodIn_of _ (by decide +kernel)) ggL_state_X2_state
theorem dL_state_0 : decode cL_state 0 = .ok (.aload_n 2, 1) := by decide +kernel
theorem dL_state_1 : decode cL_state 1 = .ok (.iconst 0, 1) := by decide +kernel
theorem dL_state_2 : decode cL_state 2 = .ok (.aload_n 0, 1) := by decide +kernel
theorem dL_state_3 : decode cL_state 3 = .ok (.iload_n 1, 1) := by decide +kernel
theorem dL_state_4 : decode cL_state 4 = .ok (.invokevirtual 29, 3) := by decide +kernel
theorem dL_state_7 : decode cL_state 7 = .ok (.i2l, 1) := by decide +kernel
theorem dL_state_8 : decode cL_state 8 = .ok (.lastore, 1) := by decide +kernel
theorem dL_state_9 : decode cL_state 9 = .ok (.goto 6, 3) := by decide +kernel
theorem dL_state_12 : decode cL_state 12 = .ok (.astore_n 3, 1) := by decide +kernel
theorem dL_state_13 : decode cL_state 13 = .ok (.iconst 1, 1) := by decide +kernel
theorem dL_state_14 : decode cL_state 14 = .ok (.ireturn, 1) := by decide +kernel
theorem dL_state_15 : decode cL_state 15 = .ok (.iconst 0, 1) := by decide +kernel
theorem dL_state_16 : decode cL_state 16 = .ok (.ireturn, 1) := by decide +kernel
set_option maxRecDepth 20000 in
theorem ggL_tag_X2_tag : GoodIn wsL_tag wsX2_tag := goodIn_ca (goodIn_r _ [6, 7, 8, 9, 10, 11, 5, 12, 13, 14, 15, 16, 17, 18, 19, 20, 21, 22, 23, 24, 25, 26, 27, 28, 29, 30, 31, 32, 33, 34, 35, 36, 37, 38, 39, 40, 41, 42, 43] (by decide +kernel) (by decide +kernel)) (goodIn_sub (fun _ h => List.mem_cons_of_mem _ (List.mem_append_right _ h)) (by decide +kernel))
set_option maxRecDepth 20000 in
theorem gL_tag_X2_tag : GoodIn wsL_tag (wsV RL 35 RX2 yX2_tag wsX2_tag) := goodIn_app (goodIn_of _ (by decide +kernel)) ggL_tag_X2_tag
theorem dL_tag_0 : decode cL_tag 0 = .ok (.aload_n 2, 1) := by decide +kernel
theorem dL_tag_1 : decode cL_tag 1 = .ok (.iconst 0, 1) := by decide +kernel
theorem dL_tag_2 : decode cL_tag 2 = .ok (.aload_n 0, 1) := by decide +kernel
theorem dL_tag_3 : decode cL_tag 3 = .ok (.iload_n 1, 1) := by decide +kernel
theorem dL_tag_4 : decode cL_tag 4 = .ok (.invokevirtual 35, 3) := by decide +kernel
theorem dL_tag_7 : decode cL_tag 7 = .ok (.lastore, 1) := by decide +kernel
theorem dL_tag_8 : decode cL_tag 8 = .ok (.goto 6, 3) := by decide +kernel
theorem dL_tag_11 : decode cL_tag 11 = .ok (.astore_n 3, 1) := by decide +kernel
theorem dL_tag_12 : decode cL_tag 12 = .ok (.iconst 1, 1) := by decide +kernel
theorem dL_tag_13 : decode cL_tag 13 = .ok (.ireturn, 1) := by decide +kernel
theorem dL_tag_14 : decode cL_tag 14 = .ok (.iconst 0, 1) := by decide +kernel
theorem dL_tag_15 : decode cL_tag 15 = .ok (.ireturn, 1) := by decide +kernel
set_option maxRecDepth 20000 in
theorem ggL_lag_X2_lag : GoodIn wsL_lag wsX2_lag := goodIn_ca (goodIn_r _ [6, 7, 8, 9, 10, 11, 12, 5, 13, 14, 15, 16, 17, 18, 19, 20, 21, 22, 23, 24, 25, 26, 27, 28, 29, 30, 31, 32, 33, 34, 35, 36, 37, 38, 39, 40, 41, 42, 43] (by decide +kernel) (by decide +kernel)) (goodIn_sub (fun _ h => List.mem_cons_of_mem _ (List.mem_append_right _ h)) (by decide +kernel))
set_option maxRecDepth 20000 in
theorem gL_lag_X2_lag : GoodIn wsL_lag (wsV RL 38 RX2 yX2_lag wsX2_lag) := goodIn_app (goodIn_of _ (by decide +kernel)) ggL_lag_X2_lag
theorem dL_lag_0 : decode cL_lag 0 = .ok (.aload_n 3, 1) := by decide +kernel
theorem dL_lag_1 : decode cL_lag 1 = .ok (.iconst 0, 1) := by decide +kernel
theorem dL_lag_2 : decode cL_lag 2 = .ok (.aload_n 0, 1) := by decide +kernel
theorem dL_lag_3 : decode cL_lag 3 = .ok (.iload_n 1, 1) := by decide +kernel
theorem dL_lag_4 : decode cL_lag 4 = .ok (.iload_n 2, 1) := by decide +kernel
theorem dL_lag_5 : decode cL_lag 5 = .ok (.invokevirtual 38, 3) := by decide +kernel
theorem dL_lag_8 : decode cL_lag 8 = .ok (.lastore, 1) := by decide +kernel
theorem dL_lag_9 : decode cL_lag 9 = .ok (.goto 7, 3) := by decide +kernel
theorem dL_lag_12 : decode cL_lag 12 = .ok (.astore 4, 2) := by decide +kernel
theorem dL_lag_14 : decode cL_lag 14 = .ok (.iconst 1, 1) := by decide +kernel
theorem dL_lag_15 : decode cL_lag 15 = .ok (.ireturn, 1) := by decide +kernel
theorem dL_lag_16 : decode cL_lag 16 = .ok (.iconst 0, 1) := by decide +kernel
theorem dL_lag_17 : decode cL_lag 17 = .ok (.ireturn, 1) := by decide +kernel
set_option maxRecDepth 20000 in
theorem ggL_law_X2_init : GoodIn wsL_law wsX2_init := goodIn_r _ [9, 10, 11, 12, 13, 14, 15, 16, 17, 18, 19, 20, 21, 22, 23, 24, 25, 26, 27, 28, 29, 6, 30, 31, 32, 33, 34, 35, 36, 37, 38, 39, 40, 41, 42, 43, 44, 45, 46, 465, 466, 467, 468, 469, 470, 471, 433, 434, 435, 436, 437, 438, 439, 440, 472, 473, 474, 475, 476, 477, 478, 479, 480, 481, 482, 483] (by decide +kernel) (by decide +kernel)
set_option maxRecDepth 20000 in
theorem gL_law_X2_init : GoodIn wsL_law (wsX2_init) := ggL_law_X2_init
set_option maxRecDepth 20000 in
theorem ggL_law_X3_init : GoodIn wsL_law wsX3_init := goodIn_r _ [49, 50, 11, 12, 25, 51, 27, 52, 53, 6, 54, 55, 56, 57, 58, 59, 60, 61, 62, 63, 64, 65, 66, 441, 442, 443, 444, 445, 446, 447, 448, 449, 450, 451, 452, 453, 454, 455, 456, 457, 458, 459, 460, 461, 462, 463, 464] (by decide +kernel) (by decide +kernel)
set_option maxRecDepth 20000 in
theorem gL_law_X3_init : GoodIn wsL_law (wsX3_init) := ggL_law_X3_init
set_option maxRecDepth 20000 in
theorem ggL_law_L_client : GoodIn wsL_law wsL_client := goodIn_ca (goodIn_r _ [70, 71, 72, 73, 74, 2, 75, 76, 77, 16, 78, 79, 80, 81, 82, 83, 84, 15, 85, 26, 86, 87, 88, 89, 30, 90, 91, 92, 93, 28, 29, 433, 434, 435, 436, 437, 438, 439, 440, 465, 466, 467, 468, 469, 470, 471] (by decide +kernel) (by decide +kernel)) (goodIn_sub (fun _ h => List.mem_append_left _ (List.mem_append_left _ (List.mem_append_right _ h))) (by decide +kernel))
set_option maxRecDepth 20000 in
theorem gL_law_L_client : GoodIn wsL_law (va_wsS RL 46 yL_client wsL_client) := goodIn_app (goodIn_of _ (by decide +kernel)) ggL_law_L_client
set_option maxRecDepth 20000 in
theorem ggL_law_X3_client : GoodIn wsL_law wsX3_client := goodIn_r _ [97, 98, 99, 100, 51, 54, 55, 52, 53, 101, 102, 5, 103, 104, 105, 106, 107, 108, 441, 442, 443, 444, 445, 446, 447, 448, 449, 450, 451, 452, 453, 454, 455, 456, 457, 458, 459, 460, 461, 462, 463, 464] (by decide +kernel) (by decide +kernel)
set_option maxRecDepth 20000 in
theorem gL_law_X3_client : GoodIn wsL_law (wsV RL 51 RX3 yX3_client wsX3_client) := goodIn_app (goodIn_of _ (by decide +kernel)) ggL_law_X3_client
set_option maxRecDepth 20000 in
theorem ggL_law_X3_thrown : GoodIn wsL_law wsX3_thrown := goodIn_r _ [112, 108, 441, 442, 443, 444, 445, 446, 447, 448, 449, 450, 451, 452, 453, 454, 455, 456, 457, 458, 459, 460, 461, 462, 463, 464] (by decide +kernel) (by decide +kernel)
set_option maxRecDepth 20000 in
theorem gL_law_X3_thrown : GoodIn wsL_law (wsV RL 52 RX3 yX3_thrown wsX3_thrown) := goodIn_app (goodIn_of _ (by decide +kernel)) ggL_law_X3_thrown
set_option maxRecDepth 20000 in
theorem ggL_law_L_gone : GoodIn wsL_law wsL_gone := goodIn_ca (goodIn_ca (goodIn_r _ [115, 71, 116, 117, 118, 119, 2, 120, 121, 122, 16, 21, 123, 124, 125, 126, 76, 77, 79, 80, 81, 82, 83, 84, 15, 85, 26, 127, 128, 129, 130, 31, 131, 132, 133, 134, 32, 135, 136, 137, 138, 139, 433, 434, 435, 436, 437, 438, 439, 440, 465, 466, 467, 468, 469, 470, 471] (by decide +kernel) (by decide +kernel)) (goodIn_sub (fun _ h => List.mem_append_left _ (List.mem_append_right _ h)) (by decide +kernel))) (goodIn_sub (fun _ h => List.mem_append_left _ (List.mem_append_left _ (List.mem_append_right _ h))) (by decide +kernel))
set_option maxRecDepth 20000 in
theorem gL_law_L_gone : GoodIn wsL_law (va_wsS RL 56 yL_gone wsL_gone) := goodIn_app (goodIn_of _ (by decide +kernel)) ggL_law_L_gone
set_option maxRecDepth 20000 in
theorem ggL_law_X3_gone : GoodIn wsL_law wsX3_gone := goodIn_r _ [143, 51, 55, 66, 144, 145, 146, 5, 147, 98, 101, 102, 103, 148, 149, 150, 151, 152, 63, 58, 104, 105, 106, 107, 108, 153, 154, 155, 156, 157, 441, 442, 443, 444, 445, 446, 447, 448, 449, 450, 451, 452, 453, 454, 455, 456, 457, 458, 459, 460, 461, 462, 463, 464] (by decide +kernel) (by decide +kernel)
set_option maxRecDepth 20000 in
theorem gL_law_X3_gone : GoodIn wsL_law (wsV RL 59 RX3 yX3_gone wsX3_gone) := goodIn_app (goodIn_of _ (by decide +kernel)) ggL_law_X3_gone
set_option maxRecDepth 20000 in
theorem ggL_law_L_submit : GoodIn wsL_law wsL_submit := goodIn_ca (goodIn_r _ [160, 71, 161, 162, 163, 2, 164, 76, 77, 165, 16, 20, 78, 166, 123, 124, 125, 126, 79, 80, 81, 82, 83, 84, 15, 85, 26, 167, 168, 169, 170, 127, 128, 129, 130, 31, 171, 172, 173, 19, 174, 175, 176, 177, 178, 179, 30, 180, 181, 182, 183, 184, 185, 186, 187, 34, 188, 189, 190, 191, 38, 39, 40, 41, 42, 43, 44, 192, 193, 194, 195, 433, 434, 435, 436, 437, 438, 439, 440, 465, 466, 467, 468, 469, 470, 471, 472, 473, 474, 475, 476, 477, 478, 479, 480, 481, 482, 483] (by decide +kernel) (by decide +kernel)) (goodIn_sub (fun _ h => List.mem_append_left _ (List.mem_append_left _ (List.mem_append_right _ h))) (by decide +kernel))
set_option maxRecDepth 20000 in
theorem gL_law_L_submit : GoodIn wsL_law (va_wsS RL 60 yL_submit wsL_submit) := goodIn_app (goodIn_of _ (by decide +kernel)) ggL_law_L_submit
set_option maxRecDepth 20000 in
theorem ggL_law_X3_submit : GoodIn wsL_law wsX3_submit := goodIn_r _ [199, 200, 201, 202, 203, 152, 58, 59, 60, 62, 65, 204, 144, 145, 146, 5, 147, 98, 51, 101, 102, 103, 104, 105, 106, 107, 108, 148, 149, 150, 151, 63, 205, 206, 207, 208, 54, 57, 56, 441, 442, 443, 444, 445, 446, 447, 448, 449, 450, 451, 452, 453, 454, 455, 456, 457, 458, 459, 460, 461, 462, 463, 464] (by decide +kernel) (by decide +kernel)
set_option maxRecDepth 20000 in
theorem gL_law_X3_submit : GoodIn wsL_law (wsV RL 63 RX3 yX3_submit wsX3_submit) := goodIn_app (goodIn_of _ (by decide +kernel)) ggL_law_X3_submit
set_option maxRecDepth 20000 in
theorem ggL_law_X2_dispatch : GoodIn wsL_law wsX2_dispatch := goodIn_r _ [212, 20, 166, 21, 213, 214, 215, 216, 19, 217, 175, 42, 218, 219, 220, 221, 43, 45, 44, 222, 223, 224, 2, 225, 16, 78, 226, 227, 228, 229, 38, 230, 231, 232, 233, 41, 234, 235, 236, 237, 40, 238, 239, 240, 241, 242, 243, 182, 244, 245, 246, 247, 248, 249, 46, 250, 251, 192, 193, 194, 195, 39, 252, 253, 254, 15, 255, 28, 30, 32, 31, 34, 256, 257, 258, 259, 139, 127, 128, 129, 130, 135, 136, 137, 138, 260, 261, 262, 263, 264, 265, 266, 267, 26, 180, 181, 183, 268, 269, 270, 271, 272, 273, 274, 275, 276, 277, 278, 279, 29, 280, 281, 282, 283, 284, 285, 286, 287, 288, 289, 290, 291, 292, 433, 434, 435, 436, 437, 438, 439, 440, 472, 473, 474, 475, 476, 477, 478, 479, 480, 481, 482, 483, 465, 466, 467, 468, 469, 470, 471] (by decide +kernel) (by decide +kernel)
set_option maxRecDepth 20000 in
theorem gL_law_X2_dispatch : GoodIn wsL_law (wsV RL 64 RX2 yX2_dispatch wsX2_dispatch) := goodIn_app (goodIn_of _ (by decide +kernel)) ggL_law_X2_dispatch
set_option maxRecDepth 20000 in
theorem ggL_law_X3_dispatch : GoodIn wsL_law wsX3_dispatch := goodIn_r _ [296, 108, 297, 152, 66, 298, 299, 300, 5, 301, 65, 204, 302, 303, 304, 305, 63, 306, 307, 308, 309, 59, 60, 58, 62, 310, 311, 312, 313, 54, 53, 157, 148, 149, 150, 151, 314, 315, 316, 317, 318, 319, 320, 321, 322, 323, 324, 325, 326, 327, 328, 64, 329, 61, 330, 52, 56, 55, 51, 153, 154, 155, 156, 441, 442, 443, 444, 445, 446, 447, 448, 449, 450, 451, 452, 453, 454, 455, 456, 457, 458, 459, 460, 461, 462, 463, 464] (by decide +kernel) (by decide +kernel)
set_option maxRecDepth 20000 in
theorem gL_law_X3_dispatch : GoodIn wsL_law (wsV RL 67 RX3 yX3_dispatch wsX3_dispatch) := goodIn_app (goodIn_of _ (by decide +kernel)) ggL_law_X3_dispatch
set_option maxRecDepth 20000 in
theorem ggL_law_L_pass : GoodIn wsL_law wsL_pass := goodIn_ca (goodIn_r _ [333, 71, 334, 335, 336, 2, 337, 76, 77, 165, 166, 79, 80, 81, 433, 434, 435, 436, 437, 438, 439, 440] (by decide +kernel) (by decide +kernel)) (goodIn_sub (fun _ h => List.mem_append_left _ (List.mem_append_left _ (List.mem_append_right _ h))) (by decide +kernel))
set_option maxRecDepth 20000 in
theorem gL_law_L_pass : GoodIn wsL_law (va_wsS RL 68 yL_pass wsL_pass) := goodIn_app (goodIn_of _ (by decide +kernel)) ggL_law_L_pass
set_option maxRecDepth 20000 in
theorem ggL_law_X3_pass : GoodIn wsL_law wsX3_pass := goodIn_r _ [341, 203, 204, 101, 102, 5, 103, 104, 105, 106, 107, 108, 441, 442, 443, 444, 445, 446, 447, 448, 449, 450, 451, 452, 453, 454, 455, 456, 457, 458, 459, 460, 461, 462, 463, 464] (by decide +kernel) (by decide +kernel)
set_option maxRecDepth 20000 in
theorem gL_law_X3_pass : GoodIn wsL_law (wsV RL 71 RX3 yX3_pass wsX3_pass) := goodIn_app (goodIn_of _ (by decide +kernel)) ggL_law_X3_pass
set_option maxRecDepth 20000 in
theorem ggL_law_L_state : GoodIn wsL_law wsL_state := goodIn_ca (goodIn_r _ [344, 345, 346, 347, 348, 2, 349, 350, 351, 20, 352, 353, 354, 19, 355, 175, 356, 219, 220, 221, 43, 45, 44, 433, 434, 435, 436, 437, 438, 439, 440, 472, 473, 474, 475, 476, 477, 478, 479, 480, 481, 482, 483] (by decide +kernel) (by decide +kernel)) (goodIn_sub (fun _ h => List.mem_append_right _ h) (by decide +kernel))
set_option maxRecDepth 20000 in
theorem gL_law_L_state : GoodIn wsL_law (va_wsS RL 72 yL_state wsL_state) := goodIn_app (goodIn_of _ (by decide +kernel)) ggL_law_L_state
set_option maxRecDepth 20000 in
theorem ggL_law_X3_state : GoodIn wsL_law wsX3_state := goodIn_r _ [360, 152, 63, 64, 101, 102, 5, 103, 104, 105, 106, 107, 108, 306, 307, 308, 309, 59, 60, 58, 62, 441, 442, 443, 444, 445, 446, 447, 448, 449, 450, 451, 452, 453, 454, 455, 456, 457, 458, 459, 460, 461, 462, 463, 464] (by decide +kernel) (by decide +kernel)
set_option maxRecDepth 20000 in
theorem gL_law_X3_state : GoodIn wsL_law (wsV RL 74 RX3 yX3_state wsX3_state) := goodIn_app (goodIn_of _ (by decide +kernel)) ggL_law_X3_state
set_option maxRecDepth 20000 in
theorem ggL_law_X2_order : GoodIn wsL_law wsX2_order := goodIn_r _ [364, 20, 365, 366, 367, 19, 368, 250, 46, 433, 434, 435, 436, 437, 438, 439, 440, 472, 473, 474, 475, 476, 477, 478, 479, 480, 481, 482, 483] (by decide +kernel) (by decide +kernel)
set_option maxRecDepth 20000 in
theorem gL_law_X2_order : GoodIn wsL_law (wsV RL 75 RX2 yX2_order wsX2_order) := goodIn_app (goodIn_of _ (by decide +kernel)) ggL_law_X2_order
set_option maxRecDepth 20000 in
theorem ggL_law_X3_order : GoodIn wsL_law wsX3_order := goodIn_r _ [372, 108, 297, 61, 101, 102, 5, 103, 441, 442, 443, 444, 445, 446, 447, 448, 449, 450, 451, 452, 453, 454, 455, 456, 457, 458, 459, 460, 461, 462, 463, 464] (by decide +kernel) (by decide +kernel)
set_option maxRecDepth 20000 in
theorem gL_law_X3_order : GoodIn wsL_law (wsV RL 78 RX3 yX3_order wsX3_order) := goodIn_app (goodIn_of _ (by decide +kernel)) ggL_law_X3_order
set_option maxRecDepth 20000 in
theorem ggL_law_L_tag : GoodIn wsL_law wsL_tag := goodIn_ca (goodIn_r _ [375, 71, 376, 377, 378, 2, 379, 78, 16, 123, 124, 125, 126, 76, 77, 79, 80, 81, 82, 83, 84, 15, 85, 26, 280, 281, 282, 283, 30, 433, 434, 435, 436, 437, 438, 439, 440, 465, 466, 467, 468, 469, 470, 471] (by decide +kernel) (by decide +kernel)) (goodIn_sub (fun _ h => List.mem_append_left _ (List.mem_append_left _ (List.mem_append_right _ h))) (by decide +kernel))
set_option maxRecDepth 20000 in
theorem gL_law_L_tag : GoodIn wsL_law (va_wsS RL 79 yL_tag wsL_tag) := goodIn_app (goodIn_of _ (by decide +kernel)) ggL_law_L_tag
set_option maxRecDepth 20000 in
theorem ggL_law_X3_tag : GoodIn wsL_law wsX3_tag := goodIn_r _ [383, 54, 144, 145, 146, 5, 147, 98, 51, 101, 102, 103, 104, 105, 106, 107, 108, 441, 442, 443, 444, 445, 446, 447, 448, 449, 450, 451, 452, 453, 454, 455, 456, 457, 458, 459, 460, 461, 462, 463, 464] (by decide +kernel) (by decide +kernel)
set_option maxRecDepth 20000 in
theorem gL_law_X3_tag : GoodIn wsL_law (wsV RL 81 RX3 yX3_tag wsX3_tag) := goodIn_app (goodIn_of _ (by decide +kernel)) ggL_law_X3_tag
set_option maxRecDepth 20000 in
theorem ggL_law_L_lag : GoodIn wsL_law wsL_lag := goodIn_ca (goodIn_r _ [386, 71, 387, 388, 389, 2, 390, 76, 77, 16, 123, 124, 125, 126, 79, 80, 81, 82, 83, 84, 15, 85, 26, 391, 392, 393, 394, 31, 34, 433, 434, 435, 436, 437, 438, 439, 440, 465, 466, 467, 468, 469, 470, 471] (by decide +kernel) (by decide +kernel)) (goodIn_sub (fun _ h => List.mem_append_left _ (List.mem_append_left _ (List.mem_append_right _ h))) (by decide +kernel))
set_option maxRecDepth 20000 in
theorem gL_law_L_lag : GoodIn wsL_law (va_wsS RL 82 yL_lag wsL_lag) := goodIn_app (goodIn_of _ (by decide +kernel)) ggL_law_L_lag
set_option maxRecDepth 20000 in
theorem ggL_law_X3_lag : GoodIn wsL_law wsX3_lag := goodIn_r _ [398, 56, 57, 144, 145, 146, 5, 147, 98, 51, 101, 102, 103, 104, 105, 106, 107, 108, 148, 149, 150, 151, 152, 63, 58, 441, 442, 443, 444, 445, 446, 447, 448, 449, 450, 451, 452, 453, 454, 455, 456, 457, 458, 459, 460, 461, 462, 463, 464] (by decide +kernel) (by decide +kernel)
set_option maxRecDepth 20000 in
theorem gL_law_X3_lag : GoodIn wsL_law (wsV RL 85 RX3 yX3_lag wsX3_lag) := goodIn_app (goodIn_of _ (by decide +kernel)) ggL_law_X3_lag
set_option maxRecDepth 20000 in
theorem ggL_law_X2_count : GoodIn wsL_law wsX2_count := goodIn_r _ [402, 16, 79, 80, 2, 81, 403, 404, 405, 15, 406, 32, 127, 128, 129, 130, 31, 407, 408, 409, 410, 20, 213, 245, 21, 139, 411, 412, 413, 414, 415, 26, 260, 261, 262, 19, 263, 175, 250, 416, 417, 418, 419, 420, 421, 422, 423, 251, 433, 434, 435, 436, 437, 438, 439, 440, 465, 466, 467, 468, 469, 470, 471, 472, 473, 474, 475, 476, 477, 478, 479, 480, 481, 482, 483] (by decide +kernel) (by decide +kernel)
set_option maxRecDepth 20000 in
theorem gL_law_X2_count : GoodIn wsL_law (wsV RL 86 RX2 yX2_count wsX2_count) := goodIn_app (goodIn_of _ (by decide +kernel)) ggL_law_X2_count
set_option maxRecDepth 20000 in
theorem ggL_law_X3_count : GoodIn wsL_law wsX3_count := goodIn_r _ [427, 108, 51, 152, 297, 329, 322, 328, 66, 157, 428, 429, 55, 430, 431, 432, 101, 102, 5, 103, 148, 149, 150, 151, 63, 58, 441, 442, 443, 444, 445, 446, 447, 448, 449, 450, 451, 452, 453, 454, 455, 456, 457, 458, 459, 460, 461, 462, 463, 464] (by decide +kernel) (by decide +kernel)
set_option maxRecDepth 20000 in
theorem gL_law_X3_count : GoodIn wsL_law (wsV RL 89 RX3 yX3_count wsX3_count) := goodIn_app (goodIn_of _ (by decide +kernel)) ggL_law_X3_count
theorem dL_law_0 : decode cL_law 0 = .ok (.new 8, 3) := by decide +kernel
theorem dL_law_3 : decode cL_law 3 = .ok (.dup, 1) := by decide +kernel
theorem dL_law_4 : decode cL_law 4 = .ok (.invokespecial 42, 3) := by decide +kernel
theorem dL_law_7 : decode cL_law 7 = .ok (.astore_n 1, 1) := by decide +kernel
theorem dL_law_8 : decode cL_law 8 = .ok (.new 43, 3) := by decide +kernel
theorem dL_law_11 : decode cL_law 11 = .ok (.dup, 1) := by decide +kernel
theorem dL_law_12 : decode cL_law 12 = .ok (.invokespecial 45, 3) := by decide +kernel
theorem dL_law_15 : decode cL_law 15 = .ok (.astore_n 2, 1) := by decide +kernel
theorem dL_law_16 : decode cL_law 16 = .ok (.iconst 1, 1) := by decide +kernel
theorem dL_law_17 : decode cL_law 17 = .ok (.newarray .long, 2) := by decide +kernel
theorem dL_law_19 : decode cL_law 19 = .ok (.astore_n 3, 1) := by decide +kernel
theorem dL_law_20 : decode cL_law 20 = .ok (.iconst 0, 1) := by decide +kernel
theorem dL_law_21 : decode cL_law 21 = .ok (.istore 4, 2) := by decide +kernel
theorem dL_law_23 : decode cL_law 23 = .ok (.iload 4, 2) := by decide +kernel
theorem dL_law_25 : decode cL_law 25 = .ok (.aload_n 0, 1) := by decide +kernel
theorem dL_law_26 : decode cL_law 26 = .ok (.arraylength, 1) := by decide +kernel
theorem dL_law_27 : decode cL_law 27 = .ok (.bipush 6, 2) := by decide +kernel
theorem dL_law_29 : decode cL_law 29 = .ok (.isub, 1) := by decide +kernel
theorem dL_law_30 : decode cL_law 30 = .ok (.if_icmp .gt 585, 3) := by decide +kernel
theorem dL_law_33 : decode cL_law 33 = .ok (.aload_n 0, 1) := by decide +kernel
theorem dL_law_34 : decode cL_law 34 = .ok (.iload 4, 2) := by decide +kernel
theorem dL_law_36 : decode cL_law 36 = .ok (.iaload, 1) := by decide +kernel
theorem dL_law_37 : decode cL_law 37 = .ok (.bipush 15, 2) := by decide +kernel
theorem dL_law_39 : decode cL_law 39 = .ok (.iand, 1) := by decide +kernel
theorem dL_law_40 : decode cL_law 40 = .ok (.tableswitch 569 0 9 #[56, 116, 152, 272, 285, 340, 396, 421, 476, 543], 56) := by decide +kernel
theorem dL_law_96 : decode cL_law 96 = .ok (.aload_n 1, 1) := by decide +kernel
theorem dL_law_97 : decode cL_law 97 = .ok (.aload_n 0, 1) := by decide +kernel
theorem dL_law_98 : decode cL_law 98 = .ok (.iload 4, 2) := by decide +kernel
theorem dL_law_100 : decode cL_law 100 = .ok (.iconst 1, 1) := by decide +kernel
theorem dL_law_101 : decode cL_law 101 = .ok (.iadd, 1) := by decide +kernel
theorem dL_law_102 : decode cL_law 102 = .ok (.iaload, 1) := by decide +kernel
theorem dL_law_103 : decode cL_law 103 = .ok (.aload_n 0, 1) := by decide +kernel
theorem dL_law_104 : decode cL_law 104 = .ok (.iload 4, 2) := by decide +kernel
theorem dL_law_106 : decode cL_law 106 = .ok (.iconst 2, 1) := by decide +kernel
theorem dL_law_107 : decode cL_law 107 = .ok (.iadd, 1) := by decide +kernel
theorem dL_law_108 : decode cL_law 108 = .ok (.iaload, 1) := by decide +kernel
theorem dL_law_109 : decode cL_law 109 = .ok (.aload_n 0, 1) := by decide +kernel
theorem dL_law_110 : decode cL_law 110 = .ok (.iload 4, 2) := by decide +kernel
theorem dL_law_112 : decode cL_law 112 = .ok (.iconst 3, 1) := by decide +kernel
theorem dL_law_113 : decode cL_law 113 = .ok (.iadd, 1) := by decide +kernel
theorem dL_law_114 : decode cL_law 114 = .ok (.iaload, 1) := by decide +kernel
theorem dL_law_115 : decode cL_law 115 = .ok (.invokestatic 46, 3) := by decide +kernel
theorem dL_law_118 : decode cL_law 118 = .ok (.istore 5, 2) := by decide +kernel
theorem dL_law_120 : decode cL_law 120 = .ok (.aload_n 2, 1) := by decide +kernel
theorem dL_law_121 : decode cL_law 121 = .ok (.aload_n 0, 1) := by decide +kernel
theorem dL_law_122 : decode cL_law 122 = .ok (.iload 4, 2) := by decide +kernel
theorem dL_law_124 : decode cL_law 124 = .ok (.iconst 1, 1) := by decide +kernel
theorem dL_law_125 : decode cL_law 125 = .ok (.iadd, 1) := by decide +kernel
theorem dL_law_126 : decode cL_law 126 = .ok (.iaload, 1) := by decide +kernel
theorem dL_law_127 : decode cL_law 127 = .ok (.aload_n 0, 1) := by decide +kernel
theorem dL_law_128 : decode cL_law 128 = .ok (.iload 4, 2) := by decide +kernel
theorem dL_law_130 : decode cL_law 130 = .ok (.iconst 2, 1) := by decide +kernel
theorem dL_law_131 : decode cL_law 131 = .ok (.iadd, 1) := by decide +kernel
theorem dL_law_132 : decode cL_law 132 = .ok (.iaload, 1) := by decide +kernel
theorem dL_law_133 : decode cL_law 133 = .ok (.aload_n 0, 1) := by decide +kernel
theorem dL_law_134 : decode cL_law 134 = .ok (.iload 4, 2) := by decide +kernel
theorem dL_law_136 : decode cL_law 136 = .ok (.iconst 3, 1) := by decide +kernel
theorem dL_law_137 : decode cL_law 137 = .ok (.iadd, 1) := by decide +kernel
theorem dL_law_138 : decode cL_law 138 = .ok (.iaload, 1) := by decide +kernel
theorem dL_law_139 : decode cL_law 139 = .ok (.invokevirtual 51, 3) := by decide +kernel
theorem dL_law_142 : decode cL_law 142 = .ok (.aload_n 2, 1) := by decide +kernel
theorem dL_law_143 : decode cL_law 143 = .ok (.invokevirtual 52, 3) := by decide +kernel
theorem dL_law_146 : decode cL_law 146 = .ok (.iload 5, 2) := by decide +kernel
theorem dL_law_148 : decode cL_law 148 = .ok (.if_icmp .eq 5, 3) := by decide +kernel
theorem dL_law_151 : decode cL_law 151 = .ok (.iconst 0, 1) := by decide +kernel
theorem dL_law_152 : decode cL_law 152 = .ok (.ireturn, 1) := by decide +kernel
theorem dL_law_153 : decode cL_law 153 = .ok (.goto 456, 3) := by decide +kernel
theorem dL_law_156 : decode cL_law 156 = .ok (.aload_n 1, 1) := by decide +kernel
theorem dL_law_157 : decode cL_law 157 = .ok (.aload_n 0, 1) := by decide +kernel
theorem dL_law_158 : decode cL_law 158 = .ok (.iload 4, 2) := by decide +kernel
theorem dL_law_160 : decode cL_law 160 = .ok (.iconst 1, 1) := by decide +kernel
theorem dL_law_161 : decode cL_law 161 = .ok (.iadd, 1) := by decide +kernel
theorem dL_law_162 : decode cL_law 162 = .ok (.iaload, 1) := by decide +kernel
theorem dL_law_163 : decode cL_law 163 = .ok (.invokestatic 56, 3) := by decide +kernel
theorem dL_law_166 : decode cL_law 166 = .ok (.istore 5, 2) := by decide +kernel
theorem dL_law_168 : decode cL_law 168 = .ok (.aload_n 2, 1) := by decide +kernel
theorem dL_law_169 : decode cL_law 169 = .ok (.aload_n 0, 1) := by decide +kernel
theorem dL_law_170 : decode cL_law 170 = .ok (.iload 4, 2) := by decide +kernel
theorem dL_law_172 : decode cL_law 172 = .ok (.iconst 1, 1) := by decide +kernel
theorem dL_law_173 : decode cL_law 173 = .ok (.iadd, 1) := by decide +kernel
theorem dL_law_174 : decode cL_law 174 = .ok (.iaload, 1) := by decide +kernel
theorem dL_law_175 : decode cL_law 175 = .ok (.invokevirtual 59, 3) := by decide +kernel
theorem dL_law_178 : decode cL_law 178 = .ok (.aload_n 2, 1) := by decide +kernel
theorem dL_law_179 : decode cL_law 179 = .ok (.invokevirtual 52, 3) := by decide +kernel
theorem dL_law_182 : decode cL_law 182 = .ok (.iload 5, 2) := by decide +kernel
theorem dL_law_184 : decode cL_law 184 = .ok (.if_icmp .eq 5, 3) := by decide +kernel
theorem dL_law_187 : decode cL_law 187 = .ok (.iconst 0, 1) := by decide +kernel
theorem dL_law_188 : decode cL_law 188 = .ok (.ireturn, 1) := by decide +kernel
theorem dL_law_189 : decode cL_law 189 = .ok (.goto 420, 3) := by decide +kernel
theorem dL_law_192 : decode cL_law 192 = .ok (.aload_n 1, 1) := by decide +kernel
theorem dL_law_193 : decode cL_law 193 = .ok (.aload_n 0, 1) := by decide +kernel
theorem dL_law_194 : decode cL_law 194 = .ok (.iload 4, 2) := by decide +kernel
theorem dL_law_196 : decode cL_law 196 = .ok (.iconst 1, 1) := by decide +kernel
theorem dL_law_197 : decode cL_law 197 = .ok (.iadd, 1) := by decide +kernel
theorem dL_law_198 : decode cL_law 198 = .ok (.iaload, 1) := by decide +kernel
theorem dL_law_199 : decode cL_law 199 = .ok (.aload_n 0, 1) := by decide +kernel
theorem dL_law_200 : decode cL_law 200 = .ok (.iload 4, 2) := by decide +kernel
theorem dL_law_202 : decode cL_law 202 = .ok (.iconst 2, 1) := by decide +kernel
theorem dL_law_203 : decode cL_law 203 = .ok (.iadd, 1) := by decide +kernel
theorem dL_law_204 : decode cL_law 204 = .ok (.iaload, 1) := by decide +kernel
theorem dL_law_205 : decode cL_law 205 = .ok (.ifCond .eq 7, 3) := by decide +kernel
theorem dL_law_208 : decode cL_law 208 = .ok (.iconst 1, 1) := by decide +kernel
theorem dL_law_209 : decode cL_law 209 = .ok (.goto 4, 3) := by decide +kernel
theorem dL_law_212 : decode cL_law 212 = .ok (.iconst 0, 1) := by decide +kernel
theorem dL_law_213 : decode cL_law 213 = .ok (.aload_n 0, 1) := by decide +kernel
theorem dL_law_214 : decode cL_law 214 = .ok (.iload 4, 2) := by decide +kernel
theorem dL_law_216 : decode cL_law 216 = .ok (.iconst 3, 1) := by decide +kernel
theorem dL_law_217 : decode cL_law 217 = .ok (.iadd, 1) := by decide +kernel
theorem dL_law_218 : decode cL_law 218 = .ok (.iaload, 1) := by decide +kernel
theorem dL_law_219 : decode cL_law 219 = .ok (.aload_n 0, 1) := by decide +kernel
theorem dL_law_220 : decode cL_law 220 = .ok (.iload 4, 2) := by decide +kernel
theorem dL_law_222 : decode cL_law 222 = .ok (.iconst 4, 1) := by decide +kernel
theorem dL_law_223 : decode cL_law 223 = .ok (.iadd, 1) := by decide +kernel
theorem dL_law_224 : decode cL_law 224 = .ok (.iaload, 1) := by decide +kernel
theorem dL_law_225 : decode cL_law 225 = .ok (.aload_n 0, 1) := by decide +kernel
theorem dL_law_226 : decode cL_law 226 = .ok (.iload 4, 2) := by decide +kernel
theorem dL_law_228 : decode cL_law 228 = .ok (.iconst 5, 1) := by decide +kernel
theorem dL_law_229 : decode cL_law 229 = .ok (.iadd, 1) := by decide +kernel
theorem dL_law_230 : decode cL_law 230 = .ok (.iaload, 1) := by decide +kernel
theorem dL_law_231 : decode cL_law 231 = .ok (.aload_n 3, 1) := by decide +kernel
theorem dL_law_232 : decode cL_law 232 = .ok (.invokestatic 60, 3) := by decide +kernel
theorem dL_law_235 : decode cL_law 235 = .ok (.istore 5, 2) := by decide +kernel
theorem dL_law_237 : decode cL_law 237 = .ok (.aload_n 2, 1) := by decide +kernel
theorem dL_law_238 : decode cL_law 238 = .ok (.aload_n 0, 1) := by decide +kernel
theorem dL_law_239 : decode cL_law 239 = .ok (.iload 4, 2) := by decide +kernel
theorem dL_law_241 : decode cL_law 241 = .ok (.iconst 1, 1) := by decide +kernel
theorem dL_law_242 : decode cL_law 242 = .ok (.iadd, 1) := by decide +kernel
theorem dL_law_243 : decode cL_law 243 = .ok (.iaload, 1) := by decide +kernel
theorem dL_law_244 : decode cL_law 244 = .ok (.aload_n 0, 1) := by decide +kernel
theorem dL_law_245 : decode cL_law 245 = .ok (.iload 4, 2) := by decide +kernel
theorem dL_law_247 : decode cL_law 247 = .ok (.iconst 2, 1) := by decide +kernel
theorem dL_law_248 : decode cL_law 248 = .ok (.iadd, 1) := by decide +kernel
theorem dL_law_249 : decode cL_law 249 = .ok (.iaload, 1) := by decide +kernel
theorem dL_law_250 : decode cL_law 250 = .ok (.ifCond .eq 7, 3) := by decide +kernel
theorem dL_law_253 : decode cL_law 253 = .ok (.iconst 1, 1) := by decide +kernel
theorem dL_law_254 : decode cL_law 254 = .ok (.goto 4, 3) := by decide +kernel
theorem dL_law_257 : decode cL_law 257 = .ok (.iconst 0, 1) := by decide +kernel
theorem dL_law_258 : decode cL_law 258 = .ok (.aload_n 0, 1) := by decide +kernel
theorem dL_law_259 : decode cL_law 259 = .ok (.iload 4, 2) := by decide +kernel
theorem dL_law_261 : decode cL_law 261 = .ok (.iconst 3, 1) := by decide +kernel
theorem dL_law_262 : decode cL_law 262 = .ok (.iadd, 1) := by decide +kernel
theorem dL_law_263 : decode cL_law 263 = .ok (.iaload, 1) := by decide +kernel
theorem dL_law_264 : decode cL_law 264 = .ok (.aload_n 0, 1) := by decide +kernel
theorem dL_law_265 : decode cL_law 265 = .ok (.iload 4, 2) := by decide +kernel
theorem dL_law_267 : decode cL_law 267 = .ok (.iconst 4, 1) := by decide +kernel
theorem dL_law_268 : decode cL_law 268 = .ok (.iadd, 1) := by decide +kernel
theorem dL_law_269 : decode cL_law 269 = .ok (.iaload, 1) := by decide +kernel
theorem dL_law_270 : decode cL_law 270 = .ok (.aload_n 0, 1) := by decide +kernel
theorem dL_law_271 : decode cL_law 271 = .ok (.iload 4, 2) := by decide +kernel
theorem dL_law_273 : decode cL_law 273 = .ok (.iconst 5, 1) := by decide +kernel
theorem dL_law_274 : decode cL_law 274 = .ok (.iadd, 1) := by decide +kernel
theorem dL_law_275 : decode cL_law 275 = .ok (.iaload, 1) := by decide +kernel
theorem dL_law_276 : decode cL_law 276 = .ok (.invokevirtual 63, 3) := by decide +kernel
theorem dL_law_279 : decode cL_law 279 = .ok (.istore 6, 2) := by decide +kernel
theorem dL_law_281 : decode cL_law 281 = .ok (.aload_n 2, 1) := by decide +kernel
theorem dL_law_282 : decode cL_law 282 = .ok (.invokevirtual 52, 3) := by decide +kernel
theorem dL_law_285 : decode cL_law 285 = .ok (.iload 5, 2) := by decide +kernel
theorem dL_law_287 : decode cL_law 287 = .ok (.if_icmp .eq 5, 3) := by decide +kernel
theorem dL_law_290 : decode cL_law 290 = .ok (.iconst 0, 1) := by decide +kernel
theorem dL_law_291 : decode cL_law 291 = .ok (.ireturn, 1) := by decide +kernel
theorem dL_law_292 : decode cL_law 292 = .ok (.iload 5, 2) := by decide +kernel
theorem dL_law_294 : decode cL_law 294 = .ok (.ifCond .ne 15, 3) := by decide +kernel
theorem dL_law_297 : decode cL_law 297 = .ok (.aload_n 3, 1) := by decide +kernel
theorem dL_law_298 : decode cL_law 298 = .ok (.iconst 0, 1) := by decide +kernel
theorem dL_law_299 : decode cL_law 299 = .ok (.laload, 1) := by decide +kernel
theorem dL_law_300 : decode cL_law 300 = .ok (.iload 6, 2) := by decide +kernel
theorem dL_law_302 : decode cL_law 302 = .ok (.i2l, 1) := by decide +kernel
theorem dL_law_303 : decode cL_law 303 = .ok (.lcmp, 1) := by decide +kernel
theorem dL_law_304 : decode cL_law 304 = .ok (.ifCond .eq 5, 3) := by decide +kernel
theorem dL_law_307 : decode cL_law 307 = .ok (.iconst 0, 1) := by decide +kernel
theorem dL_law_308 : decode cL_law 308 = .ok (.ireturn, 1) := by decide +kernel
theorem dL_law_309 : decode cL_law 309 = .ok (.goto 300, 3) := by decide +kernel
theorem dL_law_312 : decode cL_law 312 = .ok (.aload_n 1, 1) := by decide +kernel
theorem dL_law_313 : decode cL_law 313 = .ok (.invokevirtual 64, 3) := by decide +kernel
theorem dL_law_316 : decode cL_law 316 = .ok (.aload_n 2, 1) := by decide +kernel
theorem dL_law_317 : decode cL_law 317 = .ok (.invokevirtual 67, 3) := by decide +kernel
theorem dL_law_320 : decode cL_law 320 = .ok (.if_icmp .eq 289, 3) := by decide +kernel
theorem dL_law_323 : decode cL_law 323 = .ok (.iconst 0, 1) := by decide +kernel
theorem dL_law_324 : decode cL_law 324 = .ok (.ireturn, 1) := by decide +kernel
theorem dL_law_325 : decode cL_law 325 = .ok (.aload_n 1, 1) := by decide +kernel
theorem dL_law_326 : decode cL_law 326 = .ok (.aload_n 0, 1) := by decide +kernel
theorem dL_law_327 : decode cL_law 327 = .ok (.iload 4, 2) := by decide +kernel
theorem dL_law_329 : decode cL_law 329 = .ok (.iconst 1, 1) := by decide +kernel
theorem dL_law_330 : decode cL_law 330 = .ok (.iadd, 1) := by decide +kernel
theorem dL_law_331 : decode cL_law 331 = .ok (.iaload, 1) := by decide +kernel
theorem dL_law_332 : decode cL_law 332 = .ok (.aload_n 3, 1) := by decide +kernel
theorem dL_law_333 : decode cL_law 333 = .ok (.invokestatic 68, 3) := by decide +kernel
theorem dL_law_336 : decode cL_law 336 = .ok (.istore 5, 2) := by decide +kernel
theorem dL_law_338 : decode cL_law 338 = .ok (.aload_n 2, 1) := by decide +kernel
theorem dL_law_339 : decode cL_law 339 = .ok (.aload_n 0, 1) := by decide +kernel
theorem dL_law_340 : decode cL_law 340 = .ok (.iload 4, 2) := by decide +kernel
theorem dL_law_342 : decode cL_law 342 = .ok (.iconst 1, 1) := by decide +kernel
theorem dL_law_343 : decode cL_law 343 = .ok (.iadd, 1) := by decide +kernel
theorem dL_law_344 : decode cL_law 344 = .ok (.iaload, 1) := by decide +kernel
theorem dL_law_345 : decode cL_law 345 = .ok (.invokevirtual 71, 3) := by decide +kernel
theorem dL_law_348 : decode cL_law 348 = .ok (.lstore 6, 2) := by decide +kernel
theorem dL_law_350 : decode cL_law 350 = .ok (.aload_n 2, 1) := by decide +kernel
theorem dL_law_351 : decode cL_law 351 = .ok (.invokevirtual 52, 3) := by decide +kernel
theorem dL_law_354 : decode cL_law 354 = .ok (.iload 5, 2) := by decide +kernel
theorem dL_law_356 : decode cL_law 356 = .ok (.if_icmp .eq 5, 3) := by decide +kernel
theorem dL_law_359 : decode cL_law 359 = .ok (.iconst 0, 1) := by decide +kernel
theorem dL_law_360 : decode cL_law 360 = .ok (.ireturn, 1) := by decide +kernel
theorem dL_law_361 : decode cL_law 361 = .ok (.iload 5, 2) := by decide +kernel
theorem dL_law_363 : decode cL_law 363 = .ok (.ifCond .ne 14, 3) := by decide +kernel
theorem dL_law_366 : decode cL_law 366 = .ok (.aload_n 3, 1) := by decide +kernel
theorem dL_law_367 : decode cL_law 367 = .ok (.iconst 0, 1) := by decide +kernel
theorem dL_law_368 : decode cL_law 368 = .ok (.laload, 1) := by decide +kernel
theorem dL_law_369 : decode cL_law 369 = .ok (.lload 6, 2) := by decide +kernel
theorem dL_law_371 : decode cL_law 371 = .ok (.lcmp, 1) := by decide +kernel
theorem dL_law_372 : decode cL_law 372 = .ok (.ifCond .eq 5, 3) := by decide +kernel
theorem dL_law_375 : decode cL_law 375 = .ok (.iconst 0, 1) := by decide +kernel
theorem dL_law_376 : decode cL_law 376 = .ok (.ireturn, 1) := by decide +kernel
theorem dL_law_377 : decode cL_law 377 = .ok (.goto 232, 3) := by decide +kernel
theorem dL_law_380 : decode cL_law 380 = .ok (.aload_n 1, 1) := by decide +kernel
theorem dL_law_381 : decode cL_law 381 = .ok (.aload_n 0, 1) := by decide +kernel
theorem dL_law_382 : decode cL_law 382 = .ok (.iload 4, 2) := by decide +kernel
theorem dL_law_384 : decode cL_law 384 = .ok (.iconst 1, 1) := by decide +kernel
theorem dL_law_385 : decode cL_law 385 = .ok (.iadd, 1) := by decide +kernel
theorem dL_law_386 : decode cL_law 386 = .ok (.iaload, 1) := by decide +kernel
theorem dL_law_387 : decode cL_law 387 = .ok (.aload_n 3, 1) := by decide +kernel
theorem dL_law_388 : decode cL_law 388 = .ok (.invokestatic 72, 3) := by decide +kernel
theorem dL_law_391 : decode cL_law 391 = .ok (.istore 5, 2) := by decide +kernel
theorem dL_law_393 : decode cL_law 393 = .ok (.aload_n 2, 1) := by decide +kernel
theorem dL_law_394 : decode cL_law 394 = .ok (.aload_n 0, 1) := by decide +kernel
theorem dL_law_395 : decode cL_law 395 = .ok (.iload 4, 2) := by decide +kernel
theorem dL_law_397 : decode cL_law 397 = .ok (.iconst 1, 1) := by decide +kernel
theorem dL_law_398 : decode cL_law 398 = .ok (.iadd, 1) := by decide +kernel
theorem dL_law_399 : decode cL_law 399 = .ok (.iaload, 1) := by decide +kernel
theorem dL_law_400 : decode cL_law 400 = .ok (.invokevirtual 74, 3) := by decide +kernel
theorem dL_law_403 : decode cL_law 403 = .ok (.istore 6, 2) := by decide +kernel
theorem dL_law_405 : decode cL_law 405 = .ok (.aload_n 2, 1) := by decide +kernel
theorem dL_law_406 : decode cL_law 406 = .ok (.invokevirtual 52, 3) := by decide +kernel
theorem dL_law_409 : decode cL_law 409 = .ok (.iload 5, 2) := by decide +kernel
theorem dL_law_411 : decode cL_law 411 = .ok (.if_icmp .eq 5, 3) := by decide +kernel
theorem dL_law_414 : decode cL_law 414 = .ok (.iconst 0, 1) := by decide +kernel
theorem dL_law_415 : decode cL_law 415 = .ok (.ireturn, 1) := by decide +kernel
theorem dL_law_416 : decode cL_law 416 = .ok (.iload 5, 2) := by decide +kernel
theorem dL_law_418 : decode cL_law 418 = .ok (.ifCond .ne 15, 3) := by decide +kernel
theorem dL_law_421 : decode cL_law 421 = .ok (.aload_n 3, 1) := by decide +kernel
theorem dL_law_422 : decode cL_law 422 = .ok (.iconst 0, 1) := by decide +kernel
theorem dL_law_423 : decode cL_law 423 = .ok (.laload, 1) := by decide +kernel
theorem dL_law_424 : decode cL_law 424 = .ok (.iload 6, 2) := by decide +kernel
theorem dL_law_426 : decode cL_law 426 = .ok (.i2l, 1) := by decide +kernel
theorem dL_law_427 : decode cL_law 427 = .ok (.lcmp, 1) := by decide +kernel
theorem dL_law_428 : decode cL_law 428 = .ok (.ifCond .eq 5, 3) := by decide +kernel
theorem dL_law_431 : decode cL_law 431 = .ok (.iconst 0, 1) := by decide +kernel
theorem dL_law_432 : decode cL_law 432 = .ok (.ireturn, 1) := by decide +kernel
theorem dL_law_433 : decode cL_law 433 = .ok (.goto 176, 3) := by decide +kernel
theorem dL_law_436 : decode cL_law 436 = .ok (.aload_n 1, 1) := by decide +kernel
theorem dL_law_437 : decode cL_law 437 = .ok (.aload_n 0, 1) := by decide +kernel
theorem dL_law_438 : decode cL_law 438 = .ok (.iload 4, 2) := by decide +kernel
theorem dL_law_440 : decode cL_law 440 = .ok (.iconst 1, 1) := by decide +kernel
theorem dL_law_441 : decode cL_law 441 = .ok (.iadd, 1) := by decide +kernel
theorem dL_law_442 : decode cL_law 442 = .ok (.iaload, 1) := by decide +kernel
theorem dL_law_443 : decode cL_law 443 = .ok (.invokevirtual 75, 3) := by decide +kernel
theorem dL_law_446 : decode cL_law 446 = .ok (.aload_n 2, 1) := by decide +kernel
theorem dL_law_447 : decode cL_law 447 = .ok (.aload_n 0, 1) := by decide +kernel
theorem dL_law_448 : decode cL_law 448 = .ok (.iload 4, 2) := by decide +kernel
theorem dL_law_450 : decode cL_law 450 = .ok (.iconst 1, 1) := by decide +kernel
theorem dL_law_451 : decode cL_law 451 = .ok (.iadd, 1) := by decide +kernel
theorem dL_law_452 : decode cL_law 452 = .ok (.iaload, 1) := by decide +kernel
theorem dL_law_453 : decode cL_law 453 = .ok (.invokevirtual 78, 3) := by decide +kernel
theorem dL_law_456 : decode cL_law 456 = .ok (.if_icmp .eq 153, 3) := by decide +kernel
theorem dL_law_459 : decode cL_law 459 = .ok (.iconst 0, 1) := by decide +kernel
theorem dL_law_460 : decode cL_law 460 = .ok (.ireturn, 1) := by decide +kernel
theorem dL_law_461 : decode cL_law 461 = .ok (.aload_n 1, 1) := by decide +kernel
theorem dL_law_462 : decode cL_law 462 = .ok (.aload_n 0, 1) := by decide +kernel
theorem dL_law_463 : decode cL_law 463 = .ok (.iload 4, 2) := by decide +kernel
theorem dL_law_465 : decode cL_law 465 = .ok (.iconst 1, 1) := by decide +kernel
theorem dL_law_466 : decode cL_law 466 = .ok (.iadd, 1) := by decide +kernel
theorem dL_law_467 : decode cL_law 467 = .ok (.iaload, 1) := by decide +kernel
theorem dL_law_468 : decode cL_law 468 = .ok (.aload_n 3, 1) := by decide +kernel
theorem dL_law_469 : decode cL_law 469 = .ok (.invokestatic 79, 3) := by decide +kernel
theorem dL_law_472 : decode cL_law 472 = .ok (.istore 5, 2) := by decide +kernel
theorem dL_law_474 : decode cL_law 474 = .ok (.aload_n 2, 1) := by decide +kernel
theorem dL_law_475 : decode cL_law 475 = .ok (.aload_n 0, 1) := by decide +kernel
theorem dL_law_476 : decode cL_law 476 = .ok (.iload 4, 2) := by decide +kernel
theorem dL_law_478 : decode cL_law 478 = .ok (.iconst 1, 1) := by decide +kernel
theorem dL_law_479 : decode cL_law 479 = .ok (.iadd, 1) := by decide +kernel
theorem dL_law_480 : decode cL_law 480 = .ok (.iaload, 1) := by decide +kernel
theorem dL_law_481 : decode cL_law 481 = .ok (.invokevirtual 81, 3) := by decide +kernel
theorem dL_law_484 : decode cL_law 484 = .ok (.lstore 6, 2) := by decide +kernel
theorem dL_law_486 : decode cL_law 486 = .ok (.aload_n 2, 1) := by decide +kernel
theorem dL_law_487 : decode cL_law 487 = .ok (.invokevirtual 52, 3) := by decide +kernel
theorem dL_law_490 : decode cL_law 490 = .ok (.iload 5, 2) := by decide +kernel
theorem dL_law_492 : decode cL_law 492 = .ok (.if_icmp .eq 5, 3) := by decide +kernel
theorem dL_law_495 : decode cL_law 495 = .ok (.iconst 0, 1) := by decide +kernel
theorem dL_law_496 : decode cL_law 496 = .ok (.ireturn, 1) := by decide +kernel
theorem dL_law_497 : decode cL_law 497 = .ok (.iload 5, 2) := by decide +kernel
theorem dL_law_499 : decode cL_law 499 = .ok (.ifCond .ne 14, 3) := by decide +kernel
theorem dL_law_502 : decode cL_law 502 = .ok (.aload_n 3, 1) := by decide +kernel
theorem dL_law_503 : decode cL_law 503 = .ok (.iconst 0, 1) := by decide +kernel
theorem dL_law_504 : decode cL_law 504 = .ok (.laload, 1) := by decide +kernel
theorem dL_law_505 : decode cL_law 505 = .ok (.lload 6, 2) := by decide +kernel
theorem dL_law_507 : decode cL_law 507 = .ok (.lcmp, 1) := by decide +kernel
theorem dL_law_508 : decode cL_law 508 = .ok (.ifCond .eq 5, 3) := by decide +kernel
theorem dL_law_511 : decode cL_law 511 = .ok (.iconst 0, 1) := by decide +kernel
theorem dL_law_512 : decode cL_law 512 = .ok (.ireturn, 1) := by decide +kernel
theorem dL_law_513 : decode cL_law 513 = .ok (.goto 96, 3) := by decide +kernel
theorem dL_law_516 : decode cL_law 516 = .ok (.aload_n 1, 1) := by decide +kernel
theorem dL_law_517 : decode cL_law 517 = .ok (.aload_n 0, 1) := by decide +kernel
theorem dL_law_518 : decode cL_law 518 = .ok (.iload 4, 2) := by decide +kernel
theorem dL_law_520 : decode cL_law 520 = .ok (.iconst 1, 1) := by decide +kernel
theorem dL_law_521 : decode cL_law 521 = .ok (.iadd, 1) := by decide +kernel
theorem dL_law_522 : decode cL_law 522 = .ok (.iaload, 1) := by decide +kernel
theorem dL_law_523 : decode cL_law 523 = .ok (.aload_n 0, 1) := by decide +kernel
theorem dL_law_524 : decode cL_law 524 = .ok (.iload 4, 2) := by decide +kernel
theorem dL_law_526 : decode cL_law 526 = .ok (.iconst 2, 1) := by decide +kernel
theorem dL_law_527 : decode cL_law 527 = .ok (.iadd, 1) := by decide +kernel
theorem dL_law_528 : decode cL_law 528 = .ok (.iaload, 1) := by decide +kernel
theorem dL_law_529 : decode cL_law 529 = .ok (.aload_n 3, 1) := by decide +kernel
theorem dL_law_530 : decode cL_law 530 = .ok (.invokestatic 82, 3) := by decide +kernel
theorem dL_law_533 : decode cL_law 533 = .ok (.istore 5, 2) := by decide +kernel
theorem dL_law_535 : decode cL_law 535 = .ok (.aload_n 2, 1) := by decide +kernel
theorem dL_law_536 : decode cL_law 536 = .ok (.aload_n 0, 1) := by decide +kernel
theorem dL_law_537 : decode cL_law 537 = .ok (.iload 4, 2) := by decide +kernel
theorem dL_law_539 : decode cL_law 539 = .ok (.iconst 1, 1) := by decide +kernel
theorem dL_law_540 : decode cL_law 540 = .ok (.iadd, 1) := by decide +kernel
theorem dL_law_541 : decode cL_law 541 = .ok (.iaload, 1) := by decide +kernel
theorem dL_law_542 : decode cL_law 542 = .ok (.aload_n 0, 1) := by decide +kernel
theorem dL_law_543 : decode cL_law 543 = .ok (.iload 4, 2) := by decide +kernel
theorem dL_law_545 : decode cL_law 545 = .ok (.iconst 2, 1) := by decide +kernel
theorem dL_law_546 : decode cL_law 546 = .ok (.iadd, 1) := by decide +kernel
theorem dL_law_547 : decode cL_law 547 = .ok (.iaload, 1) := by decide +kernel
theorem dL_law_548 : decode cL_law 548 = .ok (.invokevirtual 85, 3) := by decide +kernel
theorem dL_law_551 : decode cL_law 551 = .ok (.lstore 6, 2) := by decide +kernel
theorem dL_law_553 : decode cL_law 553 = .ok (.aload_n 2, 1) := by decide +kernel
theorem dL_law_554 : decode cL_law 554 = .ok (.invokevirtual 52, 3) := by decide +kernel
theorem dL_law_557 : decode cL_law 557 = .ok (.iload 5, 2) := by decide +kernel
theorem dL_law_559 : decode cL_law 559 = .ok (.if_icmp .eq 5, 3) := by decide +kernel
theorem dL_law_562 : decode cL_law 562 = .ok (.iconst 0, 1) := by decide +kernel
theorem dL_law_563 : decode cL_law 563 = .ok (.ireturn, 1) := by decide +kernel
theorem dL_law_564 : decode cL_law 564 = .ok (.iload 5, 2) := by decide +kernel
theorem dL_law_566 : decode cL_law 566 = .ok (.ifCond .ne 14, 3) := by decide +kernel
theorem dL_law_569 : decode cL_law 569 = .ok (.aload_n 3, 1) := by decide +kernel
theorem dL_law_570 : decode cL_law 570 = .ok (.iconst 0, 1) := by decide +kernel
theorem dL_law_571 : decode cL_law 571 = .ok (.laload, 1) := by decide +kernel
theorem dL_law_572 : decode cL_law 572 = .ok (.lload 6, 2) := by decide +kernel
theorem dL_law_574 : decode cL_law 574 = .ok (.lcmp, 1) := by decide +kernel
theorem dL_law_575 : decode cL_law 575 = .ok (.ifCond .eq 5, 3) := by decide +kernel
theorem dL_law_578 : decode cL_law 578 = .ok (.iconst 0, 1) := by decide +kernel
theorem dL_law_579 : decode cL_law 579 = .ok (.ireturn, 1) := by decide +kernel
theorem dL_law_580 : decode cL_law 580 = .ok (.goto 29, 3) := by decide +kernel
theorem dL_law_583 : decode cL_law 583 = .ok (.aload_n 1, 1) := by decide +kernel
theorem dL_law_584 : decode cL_law 584 = .ok (.aload_n 0, 1) := by decide +kernel
theorem dL_law_585 : decode cL_law 585 = .ok (.iload 4, 2) := by decide +kernel
theorem dL_law_587 : decode cL_law 587 = .ok (.iconst 1, 1) := by decide +kernel
theorem dL_law_588 : decode cL_law 588 = .ok (.iadd, 1) := by decide +kernel
theorem dL_law_589 : decode cL_law 589 = .ok (.iaload, 1) := by decide +kernel
theorem dL_law_590 : decode cL_law 590 = .ok (.invokevirtual 86, 3) := by decide +kernel
theorem dL_law_593 : decode cL_law 593 = .ok (.aload_n 2, 1) := by decide +kernel
theorem dL_law_594 : decode cL_law 594 = .ok (.aload_n 0, 1) := by decide +kernel
theorem dL_law_595 : decode cL_law 595 = .ok (.iload 4, 2) := by decide +kernel
theorem dL_law_597 : decode cL_law 597 = .ok (.iconst 1, 1) := by decide +kernel
theorem dL_law_598 : decode cL_law 598 = .ok (.iadd, 1) := by decide +kernel
theorem dL_law_599 : decode cL_law 599 = .ok (.iaload, 1) := by decide +kernel
theorem dL_law_600 : decode cL_law 600 = .ok (.invokevirtual 89, 3) := by decide +kernel
theorem dL_law_603 : decode cL_law 603 = .ok (.lcmp, 1) := by decide +kernel
theorem dL_law_604 : decode cL_law 604 = .ok (.ifCond .eq 5, 3) := by decide +kernel
theorem dL_law_607 : decode cL_law 607 = .ok (.iconst 0, 1) := by decide +kernel
theorem dL_law_608 : decode cL_law 608 = .ok (.ireturn, 1) := by decide +kernel
theorem dL_law_609 : decode cL_law 609 = .ok (.iinc 4 6, 3) := by decide +kernel
theorem dL_law_612 : decode cL_law 612 = .ok (.goto (-589), 3) := by decide +kernel
theorem dL_law_615 : decode cL_law 615 = .ok (.iconst 1, 1) := by decide +kernel
theorem dL_law_616 : decode cL_law 616 = .ok (.ireturn, 1) := by decide +kernel
end
section
/-! Contracts by worlds: what a method finds, what it leaves; starts, ends, calls. -/
abbrev kT (k : Nat → ClassId) : List (ClassId × FieldType) := [(k 0, .boolean), (k 1, .int), (k 2, .long), (k 3, .array .long)]
def PR (D : va_G) (k : Nat → ClassId) (w : va_W) (sz : Nat) (U : State) : Prop := U.heap.size = sz ∧ va_P D vwCl w U.heap ∧ va_K D vwCl (kT k) U ∧ va_D (fun _ => True) w
def AT (D : va_G) (k : Nat → ClassId) (A : Nat → Prop) (w : va_W) (t : State) : Prop := va_P D vwCl w t.heap ∧ va_K D vwCl (kT k) t ∧ va_D A w
/-- words of a throw that a warmer table is not known to keep by themselves -/
def NGd : List MethodName := [⟨"java/lang/RuntimeException", "<init>", "()V"⟩, ⟨"java/lang/Exception", "<init>", "()V"⟩, ⟨"java/lang/Throwable", "<init>", "()V"⟩]
def NGc : List String := ["java/lang/IllegalArgumentException", "java/lang/IllegalStateException", "java/lang/IndexOutOfBoundsException"]
def NGl : List Cond := NGd.map Cond.declares ++ NGc.map (fun x => Cond.castable x x)
def NG (U : State) : Prop := (∀ x ∈ NGd, va_Nw (.declares x) U) ∧ ∀ x ∈ NGc, va_Nw (.castable x x) U
theorem NG.moved {u U : State} (hW : u.WarmedH U.vm) (h : NG u) : NG U := ⟨fun x hx => va_Nw.warmD hW (h.1 x hx), fun x hx => va_Nw.warmC hW (h.2 x hx)⟩
theorem NG.same {u U : State} (hv : u.vm = U.vm) (h : NG u) : NG U := ⟨fun x hx => va_Nw.same rfl hv (h.1 x hx), fun x hx => va_Nw.same rfl hv (h.2 x hx)⟩
theorem NG.all {U : State} (h : NG U) {args : Array Value} : ∀ w ∈ NGl, w.before args U = true := by
  intro w hw
  rcases List.mem_append.mp hw with h1 | h1
  · obtain ⟨x, hx, rfl⟩ := List.mem_map.mp h1
    exact va_Nw.use rfl (h.1 x hx)
  · obtain ⟨x, hx, rfl⟩ := List.mem_map.mp h1
    exact va_Nw.use rfl (h.2 x hx)
/-- the two statics that a throw reads, and those words -/
def ZZ (A : Nat → Prop) (U : State) (H : Heap) : Prop := (vx_Zq Bundle.tN "UNASSIGNED_STACK" Bundle.steD A U H ∧ vx_Zq Bundle.tN "SUPPRESSED_SENTINEL" Bundle.listD A U H) ∧ NG U
def PX (D : va_G) (k : Nat → ClassId) (w : va_W) (sz : Nat) (U : State) : Prop := PR D k w sz U ∧ ZZ (va_A w sz) U U.heap
theorem PR.calling {D : va_G} {k : Nat → ClassId} {w : va_W} {sz : Nat} {U : State} (g : JFrame) (mk : MethodId) (a : Array Value) (h : PR D k w sz U) : PR D k w sz (U.calling g mk a) :=
  ⟨h.1, h.2.1, va_K.moved (u := U) (U := U.calling g mk a) (Vm.Alike.refl U.vm) h.2.2.1, h.2.2.2⟩
theorem ZZ.moved {A : Nat → Prop} {u U : State} {H : Heap} (hW : u.WarmedH U.vm) (h : ZZ A u H) : ZZ A U H := ⟨⟨vx_Zq.moved hW.alike h.1.1, vx_Zq.moved hW.alike h.1.2⟩, h.2.moved hW⟩
theorem ZZ.same {A : Nat → Prop} {u U : State} {H : Heap} (hv : u.vm = U.vm) (h : ZZ A u H) : ZZ A U H := ⟨⟨vx_Zq.moved (by rw [hv]; exact Vm.Alike.refl U.vm) h.1.1, vx_Zq.moved (by rw [hv]; exact Vm.Alike.refl U.vm) h.1.2⟩, h.2.same hv⟩
theorem ZZ.kept {A : Nat → Prop} {U : State} {H H1 : Heap} (h : ZZ A U H) (hq : ∀ a : Nat, a < H.size → ¬ A a → H1[a]? = H[a]?) : ZZ A U H1 := ⟨⟨vx_Zq.kept h.1.1 hq, vx_Zq.kept h.1.2 hq⟩, h.2⟩
theorem ZZ.narrow {A B : Nat → Prop} {U : State} {H : Heap} (h : ZZ A U H) (hAB : ∀ q, B q → A q) : ZZ B U H := ⟨⟨vx_Zq.narrow h.1.1 hAB, vx_Zq.narrow h.1.2 hAB⟩, h.2⟩
theorem PX.calling {D : va_G} {k : Nat → ClassId} {w : va_W} {sz : Nat} {U : State} (g : JFrame) (mk : MethodId) (a : Array Value) (h : PX D k w sz U) : PX D k w sz (U.calling g mk a) :=
  ⟨h.1.calling g mk a, ZZ.same (u := U) (U := U.calling g mk a) rfl h.2⟩
theorem PR.blind {D : va_G} {k : Nat → ClassId} {w : va_W} {sz : Nat} {av : List Value} : FrameBlind (va_Pc av (PR D k w sz)) := fun a _ g mk q => ⟨q.1, q.2.calling g mk a⟩
theorem PX.blind {D : va_G} {k : Nat → ClassId} {w : va_W} {sz : Nat} {av : List Value} : FrameBlind (va_Pc av (PX D k w sz)) := fun a _ g mk q => ⟨q.1, q.2.calling g mk a⟩
abbrev QI (D : va_G) (k : Nat → ClassId) (post : Int32 → va_W → Prop) (A : Nat → Prop) := va_Qi post (AT D k A) A
abbrev QL (D : va_G) (k : Nat → ClassId) (post : Int64 → va_W → Prop) (A : Nat → Prop) := va_Ql post (AT D k A) A
abbrev QV (D : va_G) (k : Nat → ClassId) (post : va_W → Prop) (A : Nat → Prop) := va_Qv post (AT D k A) A
abbrev QX (D : va_G) (k : Nat → ClassId) (px : String → va_W → Prop) (A : Nat → Prop) : String → State → State → Prop := vx_X (fun _ : va_W => True) (fun E w' t => px E w' ∧ AT D k A w' t) A
abbrev MI (l : Launch) (y : MethodName) (ws : List Cond) (rm : Room) (D : va_G) (k : Nat → ClassId) (w : va_W) (sz : Nat) (av : List Value) (post : Int32 → va_W → Prop) (mc ms : Nat) : Prop := Met l y ws rm (va_Pc av (PR D k w sz)) (QI D k post (va_A w sz)) mc ms (va_A w sz)
abbrev ML (l : Launch) (y : MethodName) (ws : List Cond) (rm : Room) (D : va_G) (k : Nat → ClassId) (w : va_W) (sz : Nat) (av : List Value) (post : Int64 → va_W → Prop) (mc ms : Nat) : Prop := Met l y ws rm (va_Pc av (PR D k w sz)) (QL D k post (va_A w sz)) mc ms (va_A w sz)
abbrev MV (l : Launch) (y : MethodName) (ws : List Cond) (rm : Room) (D : va_G) (k : Nat → ClassId) (w : va_W) (sz : Nat) (av : List Value) (post : va_W → Prop) (mc ms : Nat) : Prop := Met l y ws rm (va_Pc av (PR D k w sz)) (QV D k post (va_A w sz)) mc ms (va_A w sz)
abbrev XI (l : Launch) (y : MethodName) (ws : List Cond) (rm : Room) (D : va_G) (k : Nat → ClassId) (w : va_W) (sz : Nat) (av : List Value) (post : Int32 → va_W → Prop) (px : String → va_W → Prop) (mc ms : Nat) : Prop := vx_Met l y ws rm (va_Pc av (PX D k w sz)) (QI D k post (va_A w sz)) (QX D k px (va_A w sz)) mc ms (va_A w sz)
abbrev XL (l : Launch) (y : MethodName) (ws : List Cond) (rm : Room) (D : va_G) (k : Nat → ClassId) (w : va_W) (sz : Nat) (av : List Value) (post : Int64 → va_W → Prop) (px : String → va_W → Prop) (mc ms : Nat) : Prop := vx_Met l y ws rm (va_Pc av (PX D k w sz)) (QL D k post (va_A w sz)) (QX D k px (va_A w sz)) mc ms (va_A w sz)
abbrev XV (l : Launch) (y : MethodName) (ws : List Cond) (rm : Room) (D : va_G) (k : Nat → ClassId) (w : va_W) (sz : Nat) (av : List Value) (post : va_W → Prop) (px : String → va_W → Prop) (mc ms : Nat) : Prop := vx_Met l y ws rm (va_Pc av (PX D k w sz)) (QV D k post (va_A w sz)) (QX D k px (va_A w sz)) mc ms (va_A w sz)
/-- what a body knows -/
abbrev CX (p : Program) (s : State) (m : MethodId) (meth : Method) (c : Code) (cc : ByteArray) (maxL : Nat) (ret : Option FieldType) (ws : List Cond) (av : List Value) (own nm : String) : Prop :=
  p.tables.exec = Jvm.exec ∧ c.code = cc ∧ c.maxLocals = maxL ∧ meth.sig.returnType = ret ∧ (∀ w ∈ ws, w.before av.toArray s = true) ∧ s.vm.findClass own = some m.cls ∧ meth.locks = false ∧ meth.name = nm
/-! lists of cells in blocks -/
theorem wp_mem {D : va_G} {w : va_W} {H : Heap} : va_P D vwCl w H ↔ ∀ q ∈ w, va_at D vwCl q H := by
  constructor
  · intro h q hq
    obtain ⟨i, hi⟩ := List.getElem?_of_mem hq
    exact h i q hi
  · intro h k q hk
    exact h q (List.mem_of_getElem? hk)
theorem wd_in {A : Nat → Prop} {w : va_W} (h : va_D A w) {q : Nat × va_E} (hq : q ∈ w) : A q.1 := by
  obtain ⟨i, hi⟩ := List.getElem?_of_mem hq
  exact h.2 i q hi
theorem wd_l {A : Nat → Prop} {a b : va_W} (h : va_D A (a ++ b)) : va_D A a := by
  refine ⟨fun i j p q hi hj hpq => ?_, fun k q hk => ?_⟩
  · have li := (List.getElem?_eq_some_iff.mp hi).1
    have lj := (List.getElem?_eq_some_iff.mp hj).1
    exact h.1 i j p q (by rw [List.getElem?_append_left li]; exact hi) (by rw [List.getElem?_append_left lj]; exact hj) hpq
  · have lk := (List.getElem?_eq_some_iff.mp hk).1
    exact h.2 k q (by rw [List.getElem?_append_left lk]; exact hk)
theorem wd_r {A : Nat → Prop} {a b : va_W} (h : va_D A (a ++ b)) : va_D A b := by
  have key : ∀ (i : Nat) (q : Nat × va_E), b[i]? = some q → (a ++ b)[a.length + i]? = some q := fun i q hi => by
    rw [List.getElem?_append_right (Nat.le_add_right _ _), Nat.add_sub_cancel_left]; exact hi
  refine ⟨fun i j p q hi hj hpq => ?_, fun k q hk => h.2 _ q (key k q hk)⟩
  have := h.1 _ _ p q (key i p hi) (key j q hj) hpq
  omega
theorem wd_x {A : Nat → Prop} {a b : va_W} (h : va_D A (a ++ b)) {p q : Nat × va_E} (hp : p ∈ a) (hq : q ∈ b) : p.1 ≠ q.1 := by
  obtain ⟨i, hi⟩ := List.getElem?_of_mem hp
  obtain ⟨j, hj⟩ := List.getElem?_of_mem hq
  have li := (List.getElem?_eq_some_iff.mp hi).1
  intro he
  have := h.1 i (a.length + j) p q (by rw [List.getElem?_append_left li]; exact hi) (by rw [List.getElem?_append_right (Nat.le_add_right _ _), Nat.add_sub_cancel_left]; exact hj) he
  omega
theorem wd_app {A : Nat → Prop} {a b : va_W} (h1 : va_D A a) (h2 : va_D A b) (hx : ∀ p ∈ a, ∀ q ∈ b, p.1 ≠ q.1) : va_D A (a ++ b) :=
  va_D.app h1 h2 (fun _ _ p q hp hq => hx p (List.mem_of_getElem? hp) q (List.mem_of_getElem? hq))
theorem va_A_mem {w : va_W} {sz q : Nat} : va_A w sz q ↔ (∃ e, (q, e) ∈ w) ∨ sz ≤ q := by
  constructor
  · rintro (⟨k, e, h⟩ | h)
    · exact Or.inl ⟨e, List.mem_of_getElem? h⟩
    · exact Or.inr h
  · rintro (⟨e, h⟩ | h)
    · obtain ⟨i, hi⟩ := List.getElem?_of_mem h
      exact Or.inl ⟨i, e, hi⟩
    · exact Or.inr h
/-- a callee's block among the caller's -/
theorem blk_free {A : Nat → Prop} {X B Y : va_W} {H0 H : Heap} {locs : List Loc} (hD : va_D A (X ++ (B ++ Y))) (hS : va_S A H0 H locs) (hA : ∀ q, H0.size ≤ q → A q) : ∀ q, va_A B H.size q → A q := by
  intro q h
  rcases va_A_mem.mp h with ⟨e, h⟩ | h
  · exact wd_in hD (List.mem_append_right X (List.mem_append_left Y h) : (q, e) ∈ X ++ (B ++ Y))
  · exact hA q (Nat.le_trans hS.1 h)
theorem blk_join {A : Nat → Prop} {D : va_G} {X B Y B' : va_W} {H H1 : Heap} (hP : va_P D vwCl (X ++ (B ++ Y)) H) (hD : va_D A (X ++ (B ++ Y))) (hk : ∀ q : Nat, q < H.size → ¬ va_A B H.size q → H1[q]? = H[q]?) (hF : ∀ q, va_A B H.size q → A q) (hP1 : va_P D vwCl B' H1) (hD1 : va_D (va_A B H.size) B') :
    va_P D vwCl (X ++ (B' ++ Y)) H1 ∧ va_D A (X ++ (B' ++ Y)) := by
  have hP' := wp_mem.mp hP
  have hB' := wp_mem.mp hP1
  have hDr := wd_r hD
  have offX : ∀ p ∈ X, ¬ va_A B H.size p.1 := by
    intro p hp h
    have hl := (hP' p (List.mem_append_left _ hp)).lt
    rcases va_A_mem.mp h with ⟨e, he⟩ | h
    · exact wd_x hD hp (List.mem_append_left Y he) rfl
    · omega
  have offY : ∀ p ∈ Y, ¬ va_A B H.size p.1 := by
    intro p hp h
    have hl := (hP' p (List.mem_append_right _ (List.mem_append_right _ hp))).lt
    rcases va_A_mem.mp h with ⟨e, he⟩ | h
    · exact wd_x hDr he hp rfl
    · omega
  refine ⟨wp_mem.mpr fun p hp => ?_, wd_app (wd_l hD) (wd_app (hD1.weaken fun k q _ h => hF q.1 h) (wd_r hDr) ?_) ?_⟩
  · rcases List.mem_append.mp hp with h | h
    · exact (hP' p (List.mem_append_left _ h)).kept (hk p.1 (hP' p (List.mem_append_left _ h)).lt (offX p h))
    · rcases List.mem_append.mp h with h | h
      · exact hB' p h
      · have hm : p ∈ X ++ (B ++ Y) := List.mem_append_right _ (List.mem_append_right _ h)
        exact (hP' p hm).kept (hk p.1 (hP' p hm).lt (offY p h))
  · intro p hp q hq he
    exact offY q hq (by rw [← he]; exact wd_in hD1 hp)
  · intro p hp q hq he
    rcases List.mem_append.mp hq with h | h
    · exact offX p hp (by rw [he]; exact wd_in hD1 h)
    · exact wd_x hD hp (List.mem_append_right _ h) he
theorem blk_P {D : va_G} {X B Y : va_W} {H : Heap} (hP : va_P D vwCl (X ++ (B ++ Y)) H) : va_P D vwCl B H := wp_mem.mpr fun q hq => wp_mem.mp hP q (List.mem_append_right _ (List.mem_append_left _ hq))
theorem blk_D {A : Nat → Prop} {X B Y : va_W} (hD : va_D A (X ++ (B ++ Y))) : va_D (fun _ => True) B := (wd_l (wd_r hD)).weaken fun _ _ _ _ => trivial
theorem blk_pre {D : va_G} {k : Nat → ClassId} {A : Nat → Prop} {X B Y : va_W} {s U : State} {H : Heap} (hP : va_P D vwCl (X ++ (B ++ Y)) H) (hD : va_D A (X ++ (B ++ Y))) (hK : va_K D vwCl (kT k) s) (hU : U.heap = H) (hW : s.WarmedH U.vm) : PR D k B H.size U :=
  ⟨by rw [hU], by rw [hU]; exact blk_P hP, va_K.moved hW.alike hK, blk_D hD⟩
theorem blk_preX {D : va_G} {k : Nat → ClassId} {A : Nat → Prop} {X B Y : va_W} {s U : State} {H : Heap} {locs : List Loc} (hP : va_P D vwCl (X ++ (B ++ Y)) H) (hD : va_D A (X ++ (B ++ Y))) (hK : va_K D vwCl (kT k) s) (hZ : ZZ A s s.heap) (hS : va_S A s.heap H locs) (hA : ∀ q, s.heap.size ≤ q → A q) (hU : U.heap = H) (hW : s.WarmedH U.vm) : PX D k B H.size U :=
  ⟨blk_pre hP hD hK hU hW, by rw [hU]; exact ((hZ.kept hS.2.1).narrow (blk_free hD hS hA)).moved hW⟩
/-- a pure callee: its world is empty -/
theorem nil_P {D : va_G} {w : va_W} {H H1 : Heap} (hP : va_P D vwCl w H) (hk : ∀ q : Nat, q < H.size → ¬ va_A ([] : va_W) H.size q → H1[q]? = H[q]?) : va_P D vwCl w H1 :=
  hP.kept fun i q hq => hk q.1 (hP i q hq).lt (fun h => by
    rcases va_A_mem.mp h with ⟨e, he⟩ | h
    · cases he
    · have := (hP i q hq).lt; omega)
theorem nil_free {A : Nat → Prop} {H0 H : Heap} {locs : List Loc} (hS : va_S A H0 H locs) (hA : ∀ q, H0.size ≤ q → A q) : ∀ q, va_A ([] : va_W) H.size q → A q := by
  intro q h
  rcases va_A_mem.mp h with ⟨e, he⟩ | h
  · cases he
  · exact hA q (Nat.le_trans hS.1 h)
theorem nil_pre {D : va_G} {k : Nat → ClassId} {s U : State} {H : Heap} (hK : va_K D vwCl (kT k) s) (hU : U.heap = H) (hW : s.WarmedH U.vm) : PR D k [] H.size U :=
  ⟨by rw [hU], fun k q h => by simp at h, va_K.moved hW.alike hK, ⟨fun i j p q h => by simp at h, fun k q h => by simp at h⟩⟩

section START
variable {l : Launch} {y : MethodName} {ws ws' : List Cond} {rm : Room} {D : va_G} {k : Nat → ClassId} {w : va_W} {sz mc ms : Nat} {av : List Value} {cc : ByteArray} {maxL : Nat} {ret : Option FieldType}
theorem bodyOf {Qc : (Nat → Prop) → Array Value → State → Outcome → State → Prop} (hy : plainName y.cls = true) (hw : ws = Cond.code y cc maxL ret :: ws') (hle : (lg_sl av).length ≤ maxL)
    (body : ∀ (p : Program) (e : Env) (s : State) (m : MethodId) (below : List Frame) (meth : Method) (c : Code) (A : Nat → Prop) (ls : Array Slot), CX p s m meth c cc maxL ret ws av y.cls y.name → (∀ q, s.heap.size ≤ q → A q) → va_K D vwCl (kT k) s → va_P D vwCl w s.heap → va_D A w → va_S A s.heap s.heap [] → lv_has ls maxL (lv_args 0 av) →
      W p l e rm s m av.toArray below meth c s.heap [] 0 0 (MQ below (Qc A) av.toArray s mc ms A) (F0 m 0 ls [])) :
    Met l y ws rm (va_Pc av (PR D k w sz)) (Qc (va_A w sz)) mc ms (va_A w sz) := by
  refine Met.ofW (cc := cc) (maxL := maxL) (ret := ret) hy hw ?_
  intro p e s m args below meth c s₁ B hml hv
  obtain ⟨rfl, hsz, hP, hK, hD0⟩ := hv
  have hts := atoms_spec (ws := ws) B.pre
  have hown : s.vm.findClass y.cls = some m.cls := findClass_of_methodNamed B.named
  have hin : meth.name = y.name := (name_of_methodNamed B.named B.method).1
  subst hsz
  have hD := hD0.self (sz := s.heap.size)
  have hl := lv_entry av (n := maxL) hle
  rw [lg_entry_eq]
  exact body p e s m below meth c (va_A w s.heap.size) _ ⟨B.exec, B.bytes, hml, B.returns, hts, hown, B.notSynchronized, hin⟩ (fun q h => Or.inr h) hK hP hD va_S.rf hl
theorem bodyOfX {Qc : (Nat → Prop) → Array Value → State → Outcome → State → Prop} {XC : (Nat → Prop) → String → State → State → Prop} (hy : plainName y.cls = true) (hw : ws = Cond.code y cc maxL ret :: ws') (hle : (lg_sl av).length ≤ maxL)
    (body : ∀ (p : Program) (e : Env) (s : State) (m : MethodId) (below : List Frame) (meth : Method) (c : Code) (A : Nat → Prop) (ls : Array Slot), CX p s m meth c cc maxL ret ws av y.cls y.name → (∀ x ∈ c.exceptionTable.toList, False) → ZZ A s s.heap → (∀ q, s.heap.size ≤ q → A q) → va_K D vwCl (kT k) s → va_P D vwCl w s.heap → va_D A w → va_S A s.heap s.heap [] → lv_has ls maxL (lv_args 0 av) →
      W p l e rm s m av.toArray below meth c s.heap [] 0 0 (vx_MQ below (Qc A) (XC A) av.toArray s mc ms A) (F0 m 0 ls [])) :
    vx_Met l y ws rm (va_Pc av (PX D k w sz)) (Qc (va_A w sz)) (XC (va_A w sz)) mc ms (va_A w sz) := by
  refine vx_ofW (cc := cc) (maxL := maxL) (ret := ret) hy hw ?_
  intro p e s m args below meth c s₁ B hml htab hv
  obtain ⟨rfl, ⟨hsz, hP, hK, hD0⟩, hZ⟩ := hv
  have hts := atoms_spec (ws := ws) B.pre
  have hown : s.vm.findClass y.cls = some m.cls := findClass_of_methodNamed B.named
  have hin : meth.name = y.name := (name_of_methodNamed B.named B.method).1
  subst hsz
  have hD := hD0.self (sz := s.heap.size)
  have hl := lv_entry av (n := maxL) hle
  rw [lg_entry_eq]
  exact body p e s m below meth c (va_A w s.heap.size) _ ⟨B.exec, B.bytes, hml, B.returns, hts, hown, B.notSynchronized, hin⟩ htab hZ (fun q h => Or.inr h) hK hP hD va_S.rf hl
end START
section ENDS
variable {p : Program} {l : Launch} {e : Env} {R : Room} {s : State} {m : MethodId} {below : List Frame} {meth : Method} {c : Code} {H : Heap} {locs : List Loc} {cells slots : Nat} {Q : State → Prop}
variable {cc bytes : ByteArray} {pc nL maxL index n mc ms ci q0 N : Nat} {ret ret2 : Option FieldType} {Ts ws : List Cond} {rm : Room} {av As rest st0 : List Value} {own nm C : String} {T : u_T} {fs : List Value} {y : MethodName} {ls : Array Slot} {b sz : Nat} {D : va_G} {k : Nat → ClassId} {A : Nat → Prop} {X B Y w w' : va_W}
theorem retI {post : Int32 → va_W → Prop} {v : Int32} (hc : CX p s m meth c cc nL (some .int) Ts av own nm) (hdg : decode cc pc = .ok (.ireturn, 1)) (hK : va_K D vwCl (kT k) s) (hP : va_P D vwCl w' H) (hD : va_D A w') (hS : va_S A s.heap H locs) (hpost : post v w') (h1 : cells ≤ mc) (h2 : slots ≤ ms) :
    W p l e R s m av.toArray below meth c H locs cells slots (MQ below (QI D k post A) av.toArray s mc ms A) (F0 m pc ls [.int v]) := by
  obtain ⟨hx, hb, -, hr, -, -, hlocks, -⟩ := hc
  exact W.widen h1 h2 (W.iret hx hb hr (fun t ht hW => ⟨⟨v, w', rfl, hpost, by rw [ht]; exact hP, va_K.moved hW.alike hK, hD⟩, hS.F ht⟩) hS.2.2 hdg hlocks)
theorem retIX {post : Int32 → va_W → Prop} {XC : String → State → State → Prop} {v : Int32} (hc : CX p s m meth c cc nL (some .int) Ts av own nm) (hdg : decode cc pc = .ok (.ireturn, 1)) (hK : va_K D vwCl (kT k) s) (hP : va_P D vwCl w' H) (hD : va_D A w') (hS : va_S A s.heap H locs) (hpost : post v w') (h1 : cells ≤ mc) (h2 : slots ≤ ms) :
    W p l e R s m av.toArray below meth c H locs cells slots (vx_MQ below (QI D k post A) XC av.toArray s mc ms A) (F0 m pc ls [.int v]) := by
  obtain ⟨hx, hb, -, hr, -, -, hlocks, -⟩ := hc
  exact vx_ret <| W.widen h1 h2 (W.iret hx hb hr (fun t ht hW => ⟨⟨v, w', rfl, hpost, by rw [ht]; exact hP, va_K.moved hW.alike hK, hD⟩, hS.F ht⟩) hS.2.2 hdg hlocks)
theorem retL {post : Int64 → va_W → Prop} {v : Int64} (hc : CX p s m meth c cc nL (some .long) Ts av own nm) (hdg : decode cc pc = .ok (.lreturn, 1)) (hK : va_K D vwCl (kT k) s) (hP : va_P D vwCl w' H) (hD : va_D A w') (hS : va_S A s.heap H locs) (hpost : post v w') (h1 : cells ≤ mc) (h2 : slots ≤ ms) :
    W p l e R s m av.toArray below meth c H locs cells slots (MQ below (QL D k post A) av.toArray s mc ms A) (F0 m pc ls [.long v]) := by
  obtain ⟨hx, hb, -, hr, -, -, hlocks, -⟩ := hc
  exact W.widen h1 h2 (W.lret hx hb hr (fun t ht hW => ⟨⟨v, w', rfl, hpost, by rw [ht]; exact hP, va_K.moved hW.alike hK, hD⟩, hS.F ht⟩) hS.2.2 hdg hlocks)
theorem retLX {post : Int64 → va_W → Prop} {XC : String → State → State → Prop} {v : Int64} (hc : CX p s m meth c cc nL (some .long) Ts av own nm) (hdg : decode cc pc = .ok (.lreturn, 1)) (hK : va_K D vwCl (kT k) s) (hP : va_P D vwCl w' H) (hD : va_D A w') (hS : va_S A s.heap H locs) (hpost : post v w') (h1 : cells ≤ mc) (h2 : slots ≤ ms) :
    W p l e R s m av.toArray below meth c H locs cells slots (vx_MQ below (QL D k post A) XC av.toArray s mc ms A) (F0 m pc ls [.long v]) := by
  obtain ⟨hx, hb, -, hr, -, -, hlocks, -⟩ := hc
  exact vx_ret <| W.widen h1 h2 (W.lret hx hb hr (fun t ht hW => ⟨⟨v, w', rfl, hpost, by rw [ht]; exact hP, va_K.moved hW.alike hK, hD⟩, hS.F ht⟩) hS.2.2 hdg hlocks)
theorem retZ {post : Int32 → va_W → Prop} {v : Int32} (hc : CX p s m meth c cc nL (some .boolean) Ts av own nm) (hdg : decode cc pc = .ok (.ireturn, 1)) (hK : va_K D vwCl (kT k) s) (hP : va_P D vwCl w' H) (hD : va_D A w') (hS : va_S A s.heap H locs) (hv : v = 0 ∨ v = 1) (hpost : post v w') (h1 : cells ≤ mc) (h2 : slots ≤ ms) :
    W p l e R s m av.toArray below meth c H locs cells slots (MQ below (QI D k post A) av.toArray s mc ms A) (F0 m pc ls [.int v]) := by
  obtain ⟨hx, hb, -, hr, -, -, hlocks, -⟩ := hc
  have hn : narrow .boolean (.int v) = .int v := by
    rcases hv with h | h <;> subst h <;> rfl
  exact W.widen h1 h2 (W.zret hx hb hr hn (fun t ht hW => ⟨⟨v, w', rfl, hpost, by rw [ht]; exact hP, va_K.moved hW.alike hK, hD⟩, hS.F ht⟩) hS.2.2 hdg hlocks)
theorem retV {post : va_W → Prop} (hc : CX p s m meth c cc nL none Ts av own nm) (hdg : decode cc pc = .ok (.return_, 1)) (hK : va_K D vwCl (kT k) s) (hP : va_P D vwCl w' H) (hD : va_D A w') (hS : va_S A s.heap H locs) (hpost : post w') (h1 : cells ≤ mc) (h2 : slots ≤ ms) :
    W p l e R s m av.toArray below meth c H locs cells slots (MQ below (QV D k post A) av.toArray s mc ms A) (F0 m pc ls []) := by
  obtain ⟨hx, hb, -, hr, -, -, hlocks, -⟩ := hc
  exact W.widen h1 h2 (W.vret hx hb hr (fun t ht hW => ⟨⟨w', rfl, hpost, by rw [ht]; exact hP, va_K.moved hW.alike hK, hD⟩, hS.F ht⟩) hS.2.2 hdg hlocks)
theorem retZX {post : Int32 → va_W → Prop} {XC : String → State → State → Prop} {v : Int32} (hc : CX p s m meth c cc nL (some .boolean) Ts av own nm) (hdg : decode cc pc = .ok (.ireturn, 1)) (hK : va_K D vwCl (kT k) s) (hP : va_P D vwCl w' H) (hD : va_D A w') (hS : va_S A s.heap H locs) (hv : v = 0 ∨ v = 1) (hpost : post v w') (h1 : cells ≤ mc) (h2 : slots ≤ ms) :
    W p l e R s m av.toArray below meth c H locs cells slots (vx_MQ below (QI D k post A) XC av.toArray s mc ms A) (F0 m pc ls [.int v]) := by
  obtain ⟨hx, hb, -, hr, -, -, hlocks, -⟩ := hc
  have hn : narrow .boolean (.int v) = .int v := by
    rcases hv with h | h <;> subst h <;> rfl
  exact vx_ret <| W.widen h1 h2 (W.zret hx hb hr hn (fun t ht hW => ⟨⟨v, w', rfl, hpost, by rw [ht]; exact hP, va_K.moved hW.alike hK, hD⟩, hS.F ht⟩) hS.2.2 hdg hlocks)
theorem retVX {post : va_W → Prop} {XC : String → State → State → Prop} (hc : CX p s m meth c cc nL none Ts av own nm) (hdg : decode cc pc = .ok (.return_, 1)) (hK : va_K D vwCl (kT k) s) (hP : va_P D vwCl w' H) (hD : va_D A w') (hS : va_S A s.heap H locs) (hpost : post w') (h1 : cells ≤ mc) (h2 : slots ≤ ms) :
    W p l e R s m av.toArray below meth c H locs cells slots (vx_MQ below (QV D k post A) XC av.toArray s mc ms A) (F0 m pc ls []) := by
  obtain ⟨hx, hb, -, hr, -, -, hlocks, -⟩ := hc
  exact vx_ret <| W.widen h1 h2 (W.vret hx hb hr (fun t ht hW => ⟨⟨w', rfl, hpost, by rw [ht]; exact hP, va_K.moved hW.alike hK, hD⟩, hS.F ht⟩) hS.2.2 hdg hlocks)
end ENDS
section CALLS
variable {p : Program} {l : Launch} {e : Env} {R : Room} {s : State} {m : MethodId} {below : List Frame} {meth : Method} {c : Code} {H : Heap} {locs : List Loc} {cells slots : Nat} {Q : State → Prop}
variable {cc bytes : ByteArray} {pc nL maxL index n mc ms ci q0 N : Nat} {ret ret2 : Option FieldType} {Ts ws : List Cond} {rm : Room} {av As rest st0 : List Value} {own nm C : String} {T : u_T} {fs : List Value} {y : MethodName} {ls : Array Slot} {b sz : Nat} {D : va_G} {k : Nat → ClassId} {A : Nat → Prop} {X B Y w w' : va_W}
theorem goVI {post : Int32 → va_W → Prop} (hc : CX p s m meth c cc nL ret Ts av own nm) (hM : MI l y ws rm D k B H.size (.ref b :: As) post mc ms) (cw : CallW R s av.toArray own C index y bytes maxL ret2 ws rm mc ms n) (hP : va_P D vwCl (X ++ (B ++ Y)) H) (hD : va_D A (X ++ (B ++ Y))) (hK : va_K D vwCl (kT k) s) (hS : va_S A s.heap H locs) (hA : ∀ q, s.heap.size ≤ q → A q)
    (hcl : vwCl[ci]? = some (C, T, N)) (he : B[q0]? = some (b, .inr (ci, fs))) (hn : As.length = n) (hl : ls.size = nL) (hstack : st0 = As.reverse ++ .ref b :: rest) (hrm : (rest.map fun v => v.category).sum ≤ 8) (hdg : decode cc pc = .ok (.invokevirtual index, 3)) (hf1 : cells + mc ≤ R.cells) (hf2 : slots + ms ≤ R.slots)
    (kk : ∀ (r : Int32) (B' : va_W) (H1 : Heap) (locs1 : List Loc), post r B' → va_P D vwCl (X ++ (B' ++ Y)) H1 → va_D A (X ++ (B' ++ Y)) → va_S A s.heap H1 locs1 → W p l e R s m av.toArray below meth c H1 locs1 (cells + mc) (slots + ms) Q (F0 m (pc + 3) ls (.int r :: rest))) : W p l e R s m av.toArray below meth c H locs cells slots Q (F0 m pc ls st0) := by
  obtain ⟨hx, hb, hml, -, hts, hown, -, -⟩ := hc
  have hF := blk_free (X := X) (B := B) (Y := Y) hD hS hA
  refine va_calli (va_runV (As := As) (rest := rest) ⟨hx, hb, hml, hown, hts⟩ hM cw ⟨PR.blind, va_recv hK (blk_P hP) hcl he, fun U hU hW => ⟨rfl, blk_pre hP hD hK hU hW⟩⟩ rfl hn hl hstack (lv_room hrm) hdg ⟨hf1, hf2⟩) hS (fun q _ h => hF q h) hF (fun r u t H1 locs1 ht hvm hw hB hz1 hk1 hS1 => ?_)
  obtain ⟨hP1, hK1, hD1⟩ := hB
  rw [ht] at hP1
  obtain ⟨g1, g2⟩ := blk_join hP hD hk1 hF hP1 hD1
  exact kk r u H1 locs1 hw g1 g2 hS1
theorem goVI0 {post : Int32 → va_W → Prop} (hc : CX p s m meth c cc nL ret Ts av own nm) (hM : MI l y ws rm D k B H.size (.ref b :: As) post mc ms) (cw : CallW R s av.toArray own C index y bytes maxL ret2 ws rm mc ms n) (hP : va_P D vwCl B H) (hD : va_D A B) (hK : va_K D vwCl (kT k) s) (hS : va_S A s.heap H locs) (hA : ∀ q, s.heap.size ≤ q → A q)
    (hcl : vwCl[ci]? = some (C, T, N)) (he : B[q0]? = some (b, .inr (ci, fs))) (hn : As.length = n) (hl : ls.size = nL) (hstack : st0 = As.reverse ++ .ref b :: rest) (hrm : (rest.map fun v => v.category).sum ≤ 8) (hdg : decode cc pc = .ok (.invokevirtual index, 3)) (hf1 : cells + mc ≤ R.cells) (hf2 : slots + ms ≤ R.slots)
    (kk : ∀ (r : Int32) (B' : va_W) (H1 : Heap) (locs1 : List Loc), post r B' → va_P D vwCl B' H1 → va_D A B' → va_S A s.heap H1 locs1 → W p l e R s m av.toArray below meth c H1 locs1 (cells + mc) (slots + ms) Q (F0 m (pc + 3) ls (.int r :: rest))) : W p l e R s m av.toArray below meth c H locs cells slots Q (F0 m pc ls st0) :=
  goVI (X := []) (Y := []) hc hM cw (by rw [List.nil_append, List.append_nil]; exact hP) (by rw [List.nil_append, List.append_nil]; exact hD) hK hS hA hcl he hn hl hstack hrm hdg hf1 hf2
    (fun r B' H1 locs1 h1 h2 h3 h4 => kk r B' H1 locs1 h1 (by rw [List.nil_append, List.append_nil] at h2; exact h2) (by rw [List.nil_append, List.append_nil] at h3; exact h3) h4)
theorem goVI2 {X2 : va_W} {post : Int32 → va_W → Prop} (hc : CX p s m meth c cc nL ret Ts av own nm) (hM : MI l y ws rm D k B H.size (.ref b :: As) post mc ms) (cw : CallW R s av.toArray own C index y bytes maxL ret2 ws rm mc ms n) (hP : va_P D vwCl (X ++ (X2 ++ B)) H) (hD : va_D A (X ++ (X2 ++ B))) (hK : va_K D vwCl (kT k) s) (hS : va_S A s.heap H locs) (hA : ∀ q, s.heap.size ≤ q → A q)
    (hcl : vwCl[ci]? = some (C, T, N)) (he : B[q0]? = some (b, .inr (ci, fs))) (hn : As.length = n) (hl : ls.size = nL) (hstack : st0 = As.reverse ++ .ref b :: rest) (hrm : (rest.map fun v => v.category).sum ≤ 8) (hdg : decode cc pc = .ok (.invokevirtual index, 3)) (hf1 : cells + mc ≤ R.cells) (hf2 : slots + ms ≤ R.slots)
    (kk : ∀ (r : Int32) (B' : va_W) (H1 : Heap) (locs1 : List Loc), post r B' → va_P D vwCl (X ++ (X2 ++ B')) H1 → va_D A (X ++ (X2 ++ B')) → va_S A s.heap H1 locs1 → W p l e R s m av.toArray below meth c H1 locs1 (cells + mc) (slots + ms) Q (F0 m (pc + 3) ls (.int r :: rest))) : W p l e R s m av.toArray below meth c H locs cells slots Q (F0 m pc ls st0) :=
  goVI (X := X ++ X2) (Y := []) hc hM cw (by rw [List.append_nil, List.append_assoc]; exact hP) (by rw [List.append_nil, List.append_assoc]; exact hD) hK hS hA hcl he hn hl hstack hrm hdg hf1 hf2
    (fun r B' H1 locs1 h1 h2 h3 h4 => kk r B' H1 locs1 h1 (by rw [List.append_nil, List.append_assoc] at h2; exact h2) (by rw [List.append_nil, List.append_assoc] at h3; exact h3) h4)
theorem goSI {post : Int32 → va_W → Prop} (hc : CX p s m meth c cc nL ret Ts av own nm) (hM : MI l y ws rm D k [] H.size As post mc ms) (cw : CallB R s av.toArray own index y bytes maxL ret2 ws rm mc ms n ∧ (Cond.static y).before av.toArray s = true) (hP : va_P D vwCl w H) (hD : va_D A w) (hK : va_K D vwCl (kT k) s) (hS : va_S A s.heap H locs) (hA : ∀ q, s.heap.size ≤ q → A q)
    (hn : As.length = n) (hl : ls.size = nL) (hstack : st0 = As.reverse ++ rest) (hrm : (rest.map fun v => v.category).sum ≤ 8) (hdg : decode cc pc = .ok (.invokestatic index, 3)) (hf1 : cells + mc ≤ R.cells) (hf2 : slots + ms ≤ R.slots)
    (kk : ∀ (r : Int32) (B' : va_W) (H1 : Heap) (locs1 : List Loc), post r B' → va_P D vwCl w H1 → va_D A w → va_S A s.heap H1 locs1 → W p l e R s m av.toArray below meth c H1 locs1 (cells + mc) (slots + ms) Q (F0 m (pc + 3) ls (.int r :: rest))) : W p l e R s m av.toArray below meth c H locs cells slots Q (F0 m pc ls st0) := by
  obtain ⟨hx, hb, hml, -, hts, hown, -, -⟩ := hc
  have hF := nil_free hS hA
  refine va_calli (va_runS (As := As) (rest := rest) ⟨hx, hb, hml, hown, hts⟩ hM cw ⟨PR.blind, fun U hU hW => ⟨rfl, nil_pre hK hU hW⟩⟩ rfl hn hl hstack (lv_room hrm) hdg ⟨hf1, hf2⟩) hS (fun q _ h => hF q h) hF (fun r u t H1 locs1 ht hvm hw hB hz1 hk1 hS1 => ?_)
  exact kk r u H1 locs1 hw (nil_P hP hk1) hD hS1
theorem goXI {post : Int32 → va_W → Prop} {px : String → va_W → Prop} (hc : CX p s m meth c cc nL ret Ts av own nm) (hM : XI l y ws rm D k B H.size (.ref b :: As) post px mc ms) (cw : CallW R s av.toArray own C index y bytes maxL ret2 ws rm mc ms n) (hP : va_P D vwCl (X ++ (B ++ Y)) H) (hD : va_D A (X ++ (B ++ Y))) (hK : va_K D vwCl (kT k) s) (hZ : ZZ A s s.heap) (hS : va_S A s.heap H locs) (hA : ∀ q, s.heap.size ≤ q → A q)
    (hcl : vwCl[ci]? = some (C, T, N)) (he : B[q0]? = some (b, .inr (ci, fs))) (hn : As.length = n) (hl : ls.size = nL) (hstack : st0 = As.reverse ++ .ref b :: rest) (hrm : (rest.map fun v => v.category).sum ≤ 8) (hdg : decode cc pc = .ok (.invokevirtual index, 3)) (hf1 : cells + mc ≤ R.cells) (hf2 : slots + ms ≤ R.slots)
    (kx : ∀ (E : String) (ce : Cell) (q9 : Addr) (B' : va_W) (H1 : Heap) (locs1 : List Loc), px E B' → va_P D vwCl (X ++ (B' ++ Y)) H1 → va_D A (X ++ (B' ++ Y)) → va_S A s.heap H1 locs1 → H1[q9]? = some ce → ce.vm = .none → s.vm.findClass E = some ce.cls → vx_W p l e R s m av.toArray below meth c H1 locs1 (cells + mc) (slots + ms) Q (F0 m pc ls rest) q9)
    (kk : ∀ (r : Int32) (B' : va_W) (H1 : Heap) (locs1 : List Loc), post r B' → va_P D vwCl (X ++ (B' ++ Y)) H1 → va_D A (X ++ (B' ++ Y)) → va_S A s.heap H1 locs1 → W p l e R s m av.toArray below meth c H1 locs1 (cells + mc) (slots + ms) Q (F0 m (pc + 3) ls (.int r :: rest))) : W p l e R s m av.toArray below meth c H locs cells slots Q (F0 m pc ls st0) := by
  obtain ⟨hx, hb, hml, -, hts, hown, -, -⟩ := hc
  have hF := blk_free (X := X) (B := B) (Y := Y) hD hS hA
  refine vx_calli (vx_runV (As := As) (rest := rest) ⟨hx, hb, hml, hown, hts⟩ hM cw ⟨PX.blind, va_recv hK (blk_P hP) hcl he, fun U hU hW => ⟨rfl, blk_preX hP hD hK hZ hS hA hU hW⟩⟩ rfl hn hl hstack (lv_room hrm) hdg ⟨hf1, hf2⟩) hS (fun q _ h => hF q h) hF (fun q _ h => hF q h) (fun E ce q9 u t H1 locs1 ht hvm _ hB hz1 hk1 hS1 hce hcv hcc => ?_) (fun r u t H1 locs1 ht hvm hw hB hz1 hk1 hS1 => ?_)
  · obtain ⟨hpx, hP1, hK1, hD1⟩ := hB
    rw [ht] at hP1
    obtain ⟨g1, g2⟩ := blk_join hP hD hk1 hF hP1 hD1
    exact kx E ce q9 u H1 locs1 hpx g1 g2 hS1 hce hcv hcc
  · obtain ⟨hP1, hK1, hD1⟩ := hB
    rw [ht] at hP1
    obtain ⟨g1, g2⟩ := blk_join hP hD hk1 hF hP1 hD1
    exact kk r u H1 locs1 hw g1 g2 hS1
theorem goXI0 {post : Int32 → va_W → Prop} {px : String → va_W → Prop} (hc : CX p s m meth c cc nL ret Ts av own nm) (hM : XI l y ws rm D k B H.size (.ref b :: As) post px mc ms) (cw : CallW R s av.toArray own C index y bytes maxL ret2 ws rm mc ms n) (hP : va_P D vwCl B H) (hD : va_D A B) (hK : va_K D vwCl (kT k) s) (hZ : ZZ A s s.heap) (hS : va_S A s.heap H locs) (hA : ∀ q, s.heap.size ≤ q → A q)
    (hcl : vwCl[ci]? = some (C, T, N)) (he : B[q0]? = some (b, .inr (ci, fs))) (hn : As.length = n) (hl : ls.size = nL) (hstack : st0 = As.reverse ++ .ref b :: rest) (hrm : (rest.map fun v => v.category).sum ≤ 8) (hdg : decode cc pc = .ok (.invokevirtual index, 3)) (hf1 : cells + mc ≤ R.cells) (hf2 : slots + ms ≤ R.slots)
    (kx : ∀ (E : String) (ce : Cell) (q9 : Addr) (B' : va_W) (H1 : Heap) (locs1 : List Loc), px E B' → va_P D vwCl B' H1 → va_D A B' → va_S A s.heap H1 locs1 → H1[q9]? = some ce → ce.vm = .none → s.vm.findClass E = some ce.cls → vx_W p l e R s m av.toArray below meth c H1 locs1 (cells + mc) (slots + ms) Q (F0 m pc ls rest) q9)
    (kk : ∀ (r : Int32) (B' : va_W) (H1 : Heap) (locs1 : List Loc), post r B' → va_P D vwCl B' H1 → va_D A B' → va_S A s.heap H1 locs1 → W p l e R s m av.toArray below meth c H1 locs1 (cells + mc) (slots + ms) Q (F0 m (pc + 3) ls (.int r :: rest))) : W p l e R s m av.toArray below meth c H locs cells slots Q (F0 m pc ls st0) :=
  goXI (X := []) (Y := []) hc hM cw (by rw [List.nil_append, List.append_nil]; exact hP) (by rw [List.nil_append, List.append_nil]; exact hD) hK hZ hS hA hcl he hn hl hstack hrm hdg hf1 hf2
    (fun E ce q9 B' H1 locs1 h1 h2 h3 h4 h5 h6 h7 => kx E ce q9 B' H1 locs1 h1 (by rw [List.nil_append, List.append_nil] at h2; exact h2) (by rw [List.nil_append, List.append_nil] at h3; exact h3) h4 h5 h6 h7)
    (fun r B' H1 locs1 h1 h2 h3 h4 => kk r B' H1 locs1 h1 (by rw [List.nil_append, List.append_nil] at h2; exact h2) (by rw [List.nil_append, List.append_nil] at h3; exact h3) h4)
theorem goVL {post : Int64 → va_W → Prop} (hc : CX p s m meth c cc nL ret Ts av own nm) (hM : ML l y ws rm D k B H.size (.ref b :: As) post mc ms) (cw : CallW R s av.toArray own C index y bytes maxL ret2 ws rm mc ms n) (hP : va_P D vwCl (X ++ (B ++ Y)) H) (hD : va_D A (X ++ (B ++ Y))) (hK : va_K D vwCl (kT k) s) (hS : va_S A s.heap H locs) (hA : ∀ q, s.heap.size ≤ q → A q)
    (hcl : vwCl[ci]? = some (C, T, N)) (he : B[q0]? = some (b, .inr (ci, fs))) (hn : As.length = n) (hl : ls.size = nL) (hstack : st0 = As.reverse ++ .ref b :: rest) (hrm : (rest.map fun v => v.category).sum ≤ 8) (hdg : decode cc pc = .ok (.invokevirtual index, 3)) (hf1 : cells + mc ≤ R.cells) (hf2 : slots + ms ≤ R.slots)
    (kk : ∀ (r : Int64) (B' : va_W) (H1 : Heap) (locs1 : List Loc), post r B' → va_P D vwCl (X ++ (B' ++ Y)) H1 → va_D A (X ++ (B' ++ Y)) → va_S A s.heap H1 locs1 → W p l e R s m av.toArray below meth c H1 locs1 (cells + mc) (slots + ms) Q (F0 m (pc + 3) ls (.long r :: rest))) : W p l e R s m av.toArray below meth c H locs cells slots Q (F0 m pc ls st0) := by
  obtain ⟨hx, hb, hml, -, hts, hown, -, -⟩ := hc
  have hF := blk_free (X := X) (B := B) (Y := Y) hD hS hA
  refine va_calll (va_runV (As := As) (rest := rest) ⟨hx, hb, hml, hown, hts⟩ hM cw ⟨PR.blind, va_recv hK (blk_P hP) hcl he, fun U hU hW => ⟨rfl, blk_pre hP hD hK hU hW⟩⟩ rfl hn hl hstack (lv_room hrm) hdg ⟨hf1, hf2⟩) hS (fun q _ h => hF q h) hF (fun r u t H1 locs1 ht hvm hw hB hz1 hk1 hS1 => ?_)
  obtain ⟨hP1, hK1, hD1⟩ := hB
  rw [ht] at hP1
  obtain ⟨g1, g2⟩ := blk_join hP hD hk1 hF hP1 hD1
  exact kk r u H1 locs1 hw g1 g2 hS1
theorem goVL0 {post : Int64 → va_W → Prop} (hc : CX p s m meth c cc nL ret Ts av own nm) (hM : ML l y ws rm D k B H.size (.ref b :: As) post mc ms) (cw : CallW R s av.toArray own C index y bytes maxL ret2 ws rm mc ms n) (hP : va_P D vwCl B H) (hD : va_D A B) (hK : va_K D vwCl (kT k) s) (hS : va_S A s.heap H locs) (hA : ∀ q, s.heap.size ≤ q → A q)
    (hcl : vwCl[ci]? = some (C, T, N)) (he : B[q0]? = some (b, .inr (ci, fs))) (hn : As.length = n) (hl : ls.size = nL) (hstack : st0 = As.reverse ++ .ref b :: rest) (hrm : (rest.map fun v => v.category).sum ≤ 8) (hdg : decode cc pc = .ok (.invokevirtual index, 3)) (hf1 : cells + mc ≤ R.cells) (hf2 : slots + ms ≤ R.slots)
    (kk : ∀ (r : Int64) (B' : va_W) (H1 : Heap) (locs1 : List Loc), post r B' → va_P D vwCl B' H1 → va_D A B' → va_S A s.heap H1 locs1 → W p l e R s m av.toArray below meth c H1 locs1 (cells + mc) (slots + ms) Q (F0 m (pc + 3) ls (.long r :: rest))) : W p l e R s m av.toArray below meth c H locs cells slots Q (F0 m pc ls st0) :=
  goVL (X := []) (Y := []) hc hM cw (by rw [List.nil_append, List.append_nil]; exact hP) (by rw [List.nil_append, List.append_nil]; exact hD) hK hS hA hcl he hn hl hstack hrm hdg hf1 hf2
    (fun r B' H1 locs1 h1 h2 h3 h4 => kk r B' H1 locs1 h1 (by rw [List.nil_append, List.append_nil] at h2; exact h2) (by rw [List.nil_append, List.append_nil] at h3; exact h3) h4)
theorem goVL2 {X2 : va_W} {post : Int64 → va_W → Prop} (hc : CX p s m meth c cc nL ret Ts av own nm) (hM : ML l y ws rm D k B H.size (.ref b :: As) post mc ms) (cw : CallW R s av.toArray own C index y bytes maxL ret2 ws rm mc ms n) (hP : va_P D vwCl (X ++ (X2 ++ B)) H) (hD : va_D A (X ++ (X2 ++ B))) (hK : va_K D vwCl (kT k) s) (hS : va_S A s.heap H locs) (hA : ∀ q, s.heap.size ≤ q → A q)
    (hcl : vwCl[ci]? = some (C, T, N)) (he : B[q0]? = some (b, .inr (ci, fs))) (hn : As.length = n) (hl : ls.size = nL) (hstack : st0 = As.reverse ++ .ref b :: rest) (hrm : (rest.map fun v => v.category).sum ≤ 8) (hdg : decode cc pc = .ok (.invokevirtual index, 3)) (hf1 : cells + mc ≤ R.cells) (hf2 : slots + ms ≤ R.slots)
    (kk : ∀ (r : Int64) (B' : va_W) (H1 : Heap) (locs1 : List Loc), post r B' → va_P D vwCl (X ++ (X2 ++ B')) H1 → va_D A (X ++ (X2 ++ B')) → va_S A s.heap H1 locs1 → W p l e R s m av.toArray below meth c H1 locs1 (cells + mc) (slots + ms) Q (F0 m (pc + 3) ls (.long r :: rest))) : W p l e R s m av.toArray below meth c H locs cells slots Q (F0 m pc ls st0) :=
  goVL (X := X ++ X2) (Y := []) hc hM cw (by rw [List.append_nil, List.append_assoc]; exact hP) (by rw [List.append_nil, List.append_assoc]; exact hD) hK hS hA hcl he hn hl hstack hrm hdg hf1 hf2
    (fun r B' H1 locs1 h1 h2 h3 h4 => kk r B' H1 locs1 h1 (by rw [List.append_nil, List.append_assoc] at h2; exact h2) (by rw [List.append_nil, List.append_assoc] at h3; exact h3) h4)
theorem goSL {post : Int64 → va_W → Prop} (hc : CX p s m meth c cc nL ret Ts av own nm) (hM : ML l y ws rm D k [] H.size As post mc ms) (cw : CallB R s av.toArray own index y bytes maxL ret2 ws rm mc ms n ∧ (Cond.static y).before av.toArray s = true) (hP : va_P D vwCl w H) (hD : va_D A w) (hK : va_K D vwCl (kT k) s) (hS : va_S A s.heap H locs) (hA : ∀ q, s.heap.size ≤ q → A q)
    (hn : As.length = n) (hl : ls.size = nL) (hstack : st0 = As.reverse ++ rest) (hrm : (rest.map fun v => v.category).sum ≤ 8) (hdg : decode cc pc = .ok (.invokestatic index, 3)) (hf1 : cells + mc ≤ R.cells) (hf2 : slots + ms ≤ R.slots)
    (kk : ∀ (r : Int64) (B' : va_W) (H1 : Heap) (locs1 : List Loc), post r B' → va_P D vwCl w H1 → va_D A w → va_S A s.heap H1 locs1 → W p l e R s m av.toArray below meth c H1 locs1 (cells + mc) (slots + ms) Q (F0 m (pc + 3) ls (.long r :: rest))) : W p l e R s m av.toArray below meth c H locs cells slots Q (F0 m pc ls st0) := by
  obtain ⟨hx, hb, hml, -, hts, hown, -, -⟩ := hc
  have hF := nil_free hS hA
  refine va_calll (va_runS (As := As) (rest := rest) ⟨hx, hb, hml, hown, hts⟩ hM cw ⟨PR.blind, fun U hU hW => ⟨rfl, nil_pre hK hU hW⟩⟩ rfl hn hl hstack (lv_room hrm) hdg ⟨hf1, hf2⟩) hS (fun q _ h => hF q h) hF (fun r u t H1 locs1 ht hvm hw hB hz1 hk1 hS1 => ?_)
  exact kk r u H1 locs1 hw (nil_P hP hk1) hD hS1
theorem goXL {post : Int64 → va_W → Prop} {px : String → va_W → Prop} (hc : CX p s m meth c cc nL ret Ts av own nm) (hM : XL l y ws rm D k B H.size (.ref b :: As) post px mc ms) (cw : CallW R s av.toArray own C index y bytes maxL ret2 ws rm mc ms n) (hP : va_P D vwCl (X ++ (B ++ Y)) H) (hD : va_D A (X ++ (B ++ Y))) (hK : va_K D vwCl (kT k) s) (hZ : ZZ A s s.heap) (hS : va_S A s.heap H locs) (hA : ∀ q, s.heap.size ≤ q → A q)
    (hcl : vwCl[ci]? = some (C, T, N)) (he : B[q0]? = some (b, .inr (ci, fs))) (hn : As.length = n) (hl : ls.size = nL) (hstack : st0 = As.reverse ++ .ref b :: rest) (hrm : (rest.map fun v => v.category).sum ≤ 8) (hdg : decode cc pc = .ok (.invokevirtual index, 3)) (hf1 : cells + mc ≤ R.cells) (hf2 : slots + ms ≤ R.slots)
    (kx : ∀ (E : String) (ce : Cell) (q9 : Addr) (B' : va_W) (H1 : Heap) (locs1 : List Loc), px E B' → va_P D vwCl (X ++ (B' ++ Y)) H1 → va_D A (X ++ (B' ++ Y)) → va_S A s.heap H1 locs1 → H1[q9]? = some ce → ce.vm = .none → s.vm.findClass E = some ce.cls → vx_W p l e R s m av.toArray below meth c H1 locs1 (cells + mc) (slots + ms) Q (F0 m pc ls rest) q9)
    (kk : ∀ (r : Int64) (B' : va_W) (H1 : Heap) (locs1 : List Loc), post r B' → va_P D vwCl (X ++ (B' ++ Y)) H1 → va_D A (X ++ (B' ++ Y)) → va_S A s.heap H1 locs1 → W p l e R s m av.toArray below meth c H1 locs1 (cells + mc) (slots + ms) Q (F0 m (pc + 3) ls (.long r :: rest))) : W p l e R s m av.toArray below meth c H locs cells slots Q (F0 m pc ls st0) := by
  obtain ⟨hx, hb, hml, -, hts, hown, -, -⟩ := hc
  have hF := blk_free (X := X) (B := B) (Y := Y) hD hS hA
  refine vx_calll (vx_runV (As := As) (rest := rest) ⟨hx, hb, hml, hown, hts⟩ hM cw ⟨PX.blind, va_recv hK (blk_P hP) hcl he, fun U hU hW => ⟨rfl, blk_preX hP hD hK hZ hS hA hU hW⟩⟩ rfl hn hl hstack (lv_room hrm) hdg ⟨hf1, hf2⟩) hS (fun q _ h => hF q h) hF (fun q _ h => hF q h) (fun E ce q9 u t H1 locs1 ht hvm _ hB hz1 hk1 hS1 hce hcv hcc => ?_) (fun r u t H1 locs1 ht hvm hw hB hz1 hk1 hS1 => ?_)
  · obtain ⟨hpx, hP1, hK1, hD1⟩ := hB
    rw [ht] at hP1
    obtain ⟨g1, g2⟩ := blk_join hP hD hk1 hF hP1 hD1
    exact kx E ce q9 u H1 locs1 hpx g1 g2 hS1 hce hcv hcc
  · obtain ⟨hP1, hK1, hD1⟩ := hB
    rw [ht] at hP1
    obtain ⟨g1, g2⟩ := blk_join hP hD hk1 hF hP1 hD1
    exact kk r u H1 locs1 hw g1 g2 hS1
theorem goXL0 {post : Int64 → va_W → Prop} {px : String → va_W → Prop} (hc : CX p s m meth c cc nL ret Ts av own nm) (hM : XL l y ws rm D k B H.size (.ref b :: As) post px mc ms) (cw : CallW R s av.toArray own C index y bytes maxL ret2 ws rm mc ms n) (hP : va_P D vwCl B H) (hD : va_D A B) (hK : va_K D vwCl (kT k) s) (hZ : ZZ A s s.heap) (hS : va_S A s.heap H locs) (hA : ∀ q, s.heap.size ≤ q → A q)
    (hcl : vwCl[ci]? = some (C, T, N)) (he : B[q0]? = some (b, .inr (ci, fs))) (hn : As.length = n) (hl : ls.size = nL) (hstack : st0 = As.reverse ++ .ref b :: rest) (hrm : (rest.map fun v => v.category).sum ≤ 8) (hdg : decode cc pc = .ok (.invokevirtual index, 3)) (hf1 : cells + mc ≤ R.cells) (hf2 : slots + ms ≤ R.slots)
    (kx : ∀ (E : String) (ce : Cell) (q9 : Addr) (B' : va_W) (H1 : Heap) (locs1 : List Loc), px E B' → va_P D vwCl B' H1 → va_D A B' → va_S A s.heap H1 locs1 → H1[q9]? = some ce → ce.vm = .none → s.vm.findClass E = some ce.cls → vx_W p l e R s m av.toArray below meth c H1 locs1 (cells + mc) (slots + ms) Q (F0 m pc ls rest) q9)
    (kk : ∀ (r : Int64) (B' : va_W) (H1 : Heap) (locs1 : List Loc), post r B' → va_P D vwCl B' H1 → va_D A B' → va_S A s.heap H1 locs1 → W p l e R s m av.toArray below meth c H1 locs1 (cells + mc) (slots + ms) Q (F0 m (pc + 3) ls (.long r :: rest))) : W p l e R s m av.toArray below meth c H locs cells slots Q (F0 m pc ls st0) :=
  goXL (X := []) (Y := []) hc hM cw (by rw [List.nil_append, List.append_nil]; exact hP) (by rw [List.nil_append, List.append_nil]; exact hD) hK hZ hS hA hcl he hn hl hstack hrm hdg hf1 hf2
    (fun E ce q9 B' H1 locs1 h1 h2 h3 h4 h5 h6 h7 => kx E ce q9 B' H1 locs1 h1 (by rw [List.nil_append, List.append_nil] at h2; exact h2) (by rw [List.nil_append, List.append_nil] at h3; exact h3) h4 h5 h6 h7)
    (fun r B' H1 locs1 h1 h2 h3 h4 => kk r B' H1 locs1 h1 (by rw [List.nil_append, List.append_nil] at h2; exact h2) (by rw [List.nil_append, List.append_nil] at h3; exact h3) h4)
theorem goVV {post : va_W → Prop} (hc : CX p s m meth c cc nL ret Ts av own nm) (hM : MV l y ws rm D k B H.size (.ref b :: As) post mc ms) (cw : CallW R s av.toArray own C index y bytes maxL ret2 ws rm mc ms n) (hP : va_P D vwCl (X ++ (B ++ Y)) H) (hD : va_D A (X ++ (B ++ Y))) (hK : va_K D vwCl (kT k) s) (hS : va_S A s.heap H locs) (hA : ∀ q, s.heap.size ≤ q → A q)
    (hcl : vwCl[ci]? = some (C, T, N)) (he : B[q0]? = some (b, .inr (ci, fs))) (hn : As.length = n) (hl : ls.size = nL) (hstack : st0 = As.reverse ++ .ref b :: rest) (hrm : (rest.map fun v => v.category).sum ≤ 8) (hdg : decode cc pc = .ok (.invokevirtual index, 3)) (hf1 : cells + mc ≤ R.cells) (hf2 : slots + ms ≤ R.slots)
    (kk : ∀ (B' : va_W) (H1 : Heap) (locs1 : List Loc), post B' → va_P D vwCl (X ++ (B' ++ Y)) H1 → va_D A (X ++ (B' ++ Y)) → va_S A s.heap H1 locs1 → W p l e R s m av.toArray below meth c H1 locs1 (cells + mc) (slots + ms) Q (F0 m (pc + 3) ls rest)) : W p l e R s m av.toArray below meth c H locs cells slots Q (F0 m pc ls st0) := by
  obtain ⟨hx, hb, hml, -, hts, hown, -, -⟩ := hc
  have hF := blk_free (X := X) (B := B) (Y := Y) hD hS hA
  refine va_callv (va_runV (As := As) (rest := rest) ⟨hx, hb, hml, hown, hts⟩ hM cw ⟨PR.blind, va_recv hK (blk_P hP) hcl he, fun U hU hW => ⟨rfl, blk_pre hP hD hK hU hW⟩⟩ rfl hn hl hstack (lv_room hrm) hdg ⟨hf1, hf2⟩) hS (fun q _ h => hF q h) hF (fun u t H1 locs1 ht hvm hw hB hz1 hk1 hS1 => ?_)
  obtain ⟨hP1, hK1, hD1⟩ := hB
  rw [ht] at hP1
  obtain ⟨g1, g2⟩ := blk_join hP hD hk1 hF hP1 hD1
  exact kk u H1 locs1 hw g1 g2 hS1
theorem goVV0 {post : va_W → Prop} (hc : CX p s m meth c cc nL ret Ts av own nm) (hM : MV l y ws rm D k B H.size (.ref b :: As) post mc ms) (cw : CallW R s av.toArray own C index y bytes maxL ret2 ws rm mc ms n) (hP : va_P D vwCl B H) (hD : va_D A B) (hK : va_K D vwCl (kT k) s) (hS : va_S A s.heap H locs) (hA : ∀ q, s.heap.size ≤ q → A q)
    (hcl : vwCl[ci]? = some (C, T, N)) (he : B[q0]? = some (b, .inr (ci, fs))) (hn : As.length = n) (hl : ls.size = nL) (hstack : st0 = As.reverse ++ .ref b :: rest) (hrm : (rest.map fun v => v.category).sum ≤ 8) (hdg : decode cc pc = .ok (.invokevirtual index, 3)) (hf1 : cells + mc ≤ R.cells) (hf2 : slots + ms ≤ R.slots)
    (kk : ∀ (B' : va_W) (H1 : Heap) (locs1 : List Loc), post B' → va_P D vwCl B' H1 → va_D A B' → va_S A s.heap H1 locs1 → W p l e R s m av.toArray below meth c H1 locs1 (cells + mc) (slots + ms) Q (F0 m (pc + 3) ls rest)) : W p l e R s m av.toArray below meth c H locs cells slots Q (F0 m pc ls st0) :=
  goVV (X := []) (Y := []) hc hM cw (by rw [List.nil_append, List.append_nil]; exact hP) (by rw [List.nil_append, List.append_nil]; exact hD) hK hS hA hcl he hn hl hstack hrm hdg hf1 hf2
    (fun B' H1 locs1 h1 h2 h3 h4 => kk B' H1 locs1 h1 (by rw [List.nil_append, List.append_nil] at h2; exact h2) (by rw [List.nil_append, List.append_nil] at h3; exact h3) h4)
theorem goVV2 {X2 : va_W} {post : va_W → Prop} (hc : CX p s m meth c cc nL ret Ts av own nm) (hM : MV l y ws rm D k B H.size (.ref b :: As) post mc ms) (cw : CallW R s av.toArray own C index y bytes maxL ret2 ws rm mc ms n) (hP : va_P D vwCl (X ++ (X2 ++ B)) H) (hD : va_D A (X ++ (X2 ++ B))) (hK : va_K D vwCl (kT k) s) (hS : va_S A s.heap H locs) (hA : ∀ q, s.heap.size ≤ q → A q)
    (hcl : vwCl[ci]? = some (C, T, N)) (he : B[q0]? = some (b, .inr (ci, fs))) (hn : As.length = n) (hl : ls.size = nL) (hstack : st0 = As.reverse ++ .ref b :: rest) (hrm : (rest.map fun v => v.category).sum ≤ 8) (hdg : decode cc pc = .ok (.invokevirtual index, 3)) (hf1 : cells + mc ≤ R.cells) (hf2 : slots + ms ≤ R.slots)
    (kk : ∀ (B' : va_W) (H1 : Heap) (locs1 : List Loc), post B' → va_P D vwCl (X ++ (X2 ++ B')) H1 → va_D A (X ++ (X2 ++ B')) → va_S A s.heap H1 locs1 → W p l e R s m av.toArray below meth c H1 locs1 (cells + mc) (slots + ms) Q (F0 m (pc + 3) ls rest)) : W p l e R s m av.toArray below meth c H locs cells slots Q (F0 m pc ls st0) :=
  goVV (X := X ++ X2) (Y := []) hc hM cw (by rw [List.append_nil, List.append_assoc]; exact hP) (by rw [List.append_nil, List.append_assoc]; exact hD) hK hS hA hcl he hn hl hstack hrm hdg hf1 hf2
    (fun B' H1 locs1 h1 h2 h3 h4 => kk B' H1 locs1 h1 (by rw [List.append_nil, List.append_assoc] at h2; exact h2) (by rw [List.append_nil, List.append_assoc] at h3; exact h3) h4)
theorem goSV {post : va_W → Prop} (hc : CX p s m meth c cc nL ret Ts av own nm) (hM : MV l y ws rm D k [] H.size As post mc ms) (cw : CallB R s av.toArray own index y bytes maxL ret2 ws rm mc ms n ∧ (Cond.static y).before av.toArray s = true) (hP : va_P D vwCl w H) (hD : va_D A w) (hK : va_K D vwCl (kT k) s) (hS : va_S A s.heap H locs) (hA : ∀ q, s.heap.size ≤ q → A q)
    (hn : As.length = n) (hl : ls.size = nL) (hstack : st0 = As.reverse ++ rest) (hrm : (rest.map fun v => v.category).sum ≤ 8) (hdg : decode cc pc = .ok (.invokestatic index, 3)) (hf1 : cells + mc ≤ R.cells) (hf2 : slots + ms ≤ R.slots)
    (kk : ∀ (B' : va_W) (H1 : Heap) (locs1 : List Loc), post B' → va_P D vwCl w H1 → va_D A w → va_S A s.heap H1 locs1 → W p l e R s m av.toArray below meth c H1 locs1 (cells + mc) (slots + ms) Q (F0 m (pc + 3) ls rest)) : W p l e R s m av.toArray below meth c H locs cells slots Q (F0 m pc ls st0) := by
  obtain ⟨hx, hb, hml, -, hts, hown, -, -⟩ := hc
  have hF := nil_free hS hA
  refine va_callv (va_runS (As := As) (rest := rest) ⟨hx, hb, hml, hown, hts⟩ hM cw ⟨PR.blind, fun U hU hW => ⟨rfl, nil_pre hK hU hW⟩⟩ rfl hn hl hstack (lv_room hrm) hdg ⟨hf1, hf2⟩) hS (fun q _ h => hF q h) hF (fun u t H1 locs1 ht hvm hw hB hz1 hk1 hS1 => ?_)
  exact kk u H1 locs1 hw (nil_P hP hk1) hD hS1
theorem goXV {post : va_W → Prop} {px : String → va_W → Prop} (hc : CX p s m meth c cc nL ret Ts av own nm) (hM : XV l y ws rm D k B H.size (.ref b :: As) post px mc ms) (cw : CallW R s av.toArray own C index y bytes maxL ret2 ws rm mc ms n) (hP : va_P D vwCl (X ++ (B ++ Y)) H) (hD : va_D A (X ++ (B ++ Y))) (hK : va_K D vwCl (kT k) s) (hZ : ZZ A s s.heap) (hS : va_S A s.heap H locs) (hA : ∀ q, s.heap.size ≤ q → A q)
    (hcl : vwCl[ci]? = some (C, T, N)) (he : B[q0]? = some (b, .inr (ci, fs))) (hn : As.length = n) (hl : ls.size = nL) (hstack : st0 = As.reverse ++ .ref b :: rest) (hrm : (rest.map fun v => v.category).sum ≤ 8) (hdg : decode cc pc = .ok (.invokevirtual index, 3)) (hf1 : cells + mc ≤ R.cells) (hf2 : slots + ms ≤ R.slots)
    (kx : ∀ (E : String) (ce : Cell) (q9 : Addr) (B' : va_W) (H1 : Heap) (locs1 : List Loc), px E B' → va_P D vwCl (X ++ (B' ++ Y)) H1 → va_D A (X ++ (B' ++ Y)) → va_S A s.heap H1 locs1 → H1[q9]? = some ce → ce.vm = .none → s.vm.findClass E = some ce.cls → vx_W p l e R s m av.toArray below meth c H1 locs1 (cells + mc) (slots + ms) Q (F0 m pc ls rest) q9)
    (kk : ∀ (B' : va_W) (H1 : Heap) (locs1 : List Loc), post B' → va_P D vwCl (X ++ (B' ++ Y)) H1 → va_D A (X ++ (B' ++ Y)) → va_S A s.heap H1 locs1 → W p l e R s m av.toArray below meth c H1 locs1 (cells + mc) (slots + ms) Q (F0 m (pc + 3) ls rest)) : W p l e R s m av.toArray below meth c H locs cells slots Q (F0 m pc ls st0) := by
  obtain ⟨hx, hb, hml, -, hts, hown, -, -⟩ := hc
  have hF := blk_free (X := X) (B := B) (Y := Y) hD hS hA
  refine vx_callv (vx_runV (As := As) (rest := rest) ⟨hx, hb, hml, hown, hts⟩ hM cw ⟨PX.blind, va_recv hK (blk_P hP) hcl he, fun U hU hW => ⟨rfl, blk_preX hP hD hK hZ hS hA hU hW⟩⟩ rfl hn hl hstack (lv_room hrm) hdg ⟨hf1, hf2⟩) hS (fun q _ h => hF q h) hF (fun q _ h => hF q h) (fun E ce q9 u t H1 locs1 ht hvm _ hB hz1 hk1 hS1 hce hcv hcc => ?_) (fun u t H1 locs1 ht hvm hw hB hz1 hk1 hS1 => ?_)
  · obtain ⟨hpx, hP1, hK1, hD1⟩ := hB
    rw [ht] at hP1
    obtain ⟨g1, g2⟩ := blk_join hP hD hk1 hF hP1 hD1
    exact kx E ce q9 u H1 locs1 hpx g1 g2 hS1 hce hcv hcc
  · obtain ⟨hP1, hK1, hD1⟩ := hB
    rw [ht] at hP1
    obtain ⟨g1, g2⟩ := blk_join hP hD hk1 hF hP1 hD1
    exact kk u H1 locs1 hw g1 g2 hS1
theorem goXV0 {post : va_W → Prop} {px : String → va_W → Prop} (hc : CX p s m meth c cc nL ret Ts av own nm) (hM : XV l y ws rm D k B H.size (.ref b :: As) post px mc ms) (cw : CallW R s av.toArray own C index y bytes maxL ret2 ws rm mc ms n) (hP : va_P D vwCl B H) (hD : va_D A B) (hK : va_K D vwCl (kT k) s) (hZ : ZZ A s s.heap) (hS : va_S A s.heap H locs) (hA : ∀ q, s.heap.size ≤ q → A q)
    (hcl : vwCl[ci]? = some (C, T, N)) (he : B[q0]? = some (b, .inr (ci, fs))) (hn : As.length = n) (hl : ls.size = nL) (hstack : st0 = As.reverse ++ .ref b :: rest) (hrm : (rest.map fun v => v.category).sum ≤ 8) (hdg : decode cc pc = .ok (.invokevirtual index, 3)) (hf1 : cells + mc ≤ R.cells) (hf2 : slots + ms ≤ R.slots)
    (kx : ∀ (E : String) (ce : Cell) (q9 : Addr) (B' : va_W) (H1 : Heap) (locs1 : List Loc), px E B' → va_P D vwCl B' H1 → va_D A B' → va_S A s.heap H1 locs1 → H1[q9]? = some ce → ce.vm = .none → s.vm.findClass E = some ce.cls → vx_W p l e R s m av.toArray below meth c H1 locs1 (cells + mc) (slots + ms) Q (F0 m pc ls rest) q9)
    (kk : ∀ (B' : va_W) (H1 : Heap) (locs1 : List Loc), post B' → va_P D vwCl B' H1 → va_D A B' → va_S A s.heap H1 locs1 → W p l e R s m av.toArray below meth c H1 locs1 (cells + mc) (slots + ms) Q (F0 m (pc + 3) ls rest)) : W p l e R s m av.toArray below meth c H locs cells slots Q (F0 m pc ls st0) :=
  goXV (X := []) (Y := []) hc hM cw (by rw [List.nil_append, List.append_nil]; exact hP) (by rw [List.nil_append, List.append_nil]; exact hD) hK hZ hS hA hcl he hn hl hstack hrm hdg hf1 hf2
    (fun E ce q9 B' H1 locs1 h1 h2 h3 h4 h5 h6 h7 => kx E ce q9 B' H1 locs1 h1 (by rw [List.nil_append, List.append_nil] at h2; exact h2) (by rw [List.nil_append, List.append_nil] at h3; exact h3) h4 h5 h6 h7)
    (fun B' H1 locs1 h1 h2 h3 h4 => kk B' H1 locs1 h1 (by rw [List.nil_append, List.append_nil] at h2; exact h2) (by rw [List.nil_append, List.append_nil] at h3; exact h3) h4)
theorem outX {Qc : Array Value → State → Outcome → State → Prop} {px : String → va_W → Prop} {E : String} {ce : Cell} {q9 : Addr} (hc : CX p s m meth c cc nL ret Ts av own nm) (htab : ∀ x ∈ c.exceptionTable.toList, False) (hK : va_K D vwCl (kT k) s) (hP : va_P D vwCl w' H) (hD : va_D A w') (hS : va_S A s.heap H locs) (hce : H[q9]? = some ce) (hv : ce.vm = .none) (hcl : s.vm.findClass E = some ce.cls) (hpx : px E w') (h1 : cells ≤ mc) (h2 : slots ≤ ms) :
    vx_W p l e R s m av.toArray below meth c H locs cells slots (vx_MQ below Qc (QX D k px A) av.toArray s mc ms A) (F0 m pc ls rest) q9 :=
  vx_out (fun x hx => (htab x hx).elim) hc.2.2.2.2.2.2.1 hce hv hcl (fun t ht hW => ⟨w', trivial, ⟨hpx, by rw [ht]; exact hP, va_K.moved hW hK, hD⟩, hS.F ht⟩) hS.2.2 h1 h2
/-- 'throw new E()' -/
theorem thr {Qc : Array Value → State → Outcome → State → Prop} {px : String → va_W → Prop} {E : String} {names : List String} {ik ic : Nat} (hc : CX p s m meth c cc nL ret Ts av own nm) (htab : ∀ x ∈ c.exceptionTable.toList, False) (hl0 : l.stackTraces = false) (hZ : ZZ A s s.heap) (hK : va_K D vwCl (kT k) s) (hP : va_P D vwCl w' H) (hD : va_D A w') (hS : va_S A s.heap H locs)
    (hfit : Bundle.fit E = true) (hnames : ∀ n ∈ names, Bundle.fit n = true) (hk : Cond.classLink own ik E ∈ Ts) (hini : Cond.initialized E ∈ Ts) (hat1 : ∀ w ∈ (vx_at0 own ic E names).filter goodWord, w ∈ Ts) (hat2 : ∀ w ∈ (vx_at0 own ic E names).filter (fun w => !goodWord w), w ∈ NGl)
    (hgood : ∀ w ∈ Cond.classLink own ik E :: Cond.initialized E :: vx_at0 own ic E names, vx_ot w = true) (hsz : ls.size = nL)
    (d0 : decode cc pc = .ok (.new ik, 3)) (d3 : decode cc (pc + 3) = .ok (.dup, 1)) (d4 : decode cc (pc + 4) = .ok (.invokespecial ic, 3)) (d7 : decode cc (pc + 7) = .ok (.athrow, 1))
    (hRf : names.length + 3 < R.frames) (hRl : (rest.map fun v => v.category).sum + (13 * (names.length + 1) + 42) ≤ R.locals) (hRc : cells + 1 ≤ R.cells) (hRs : slots + 6 ≤ R.slots) (hpx : px E w') (h1 : cells + 1 ≤ mc) (h2 : slots + 6 ≤ ms) :
    W p l e R s m av.toArray below meth c H locs cells slots (vx_MQ below Qc (QX D k px A) av.toArray s mc ms A) (F0 m pc ls rest) := by
  obtain ⟨hx, hb, hml, -, hts, hown, hlocks, -⟩ := hc
  refine vx_throw0 hx hb hl0 (A := A) hown hfit hnames (hts _ hk) (hts _ hini) (vx_hat (fun w hw => hts w (hat1 w hw)) hat2 hZ.2.all) hgood hZ.1.1 hZ.1.2 hS (hsz.trans hml.symm) d0 d3 d4 d7 (fun x hx => (htab x hx).elim) hRf hRl hRc hRs hlocks (fun t hal hz hk9 => ?_) hS.2.2 h1 h2
  refine ⟨w', trivial, ⟨hpx, hP.kept fun i q hq => hk9 q.1 (hP i q hq).lt, va_K.moved hal hK, hD⟩, Nat.le_trans hS.1 hz, fun q h3 h4 => ?_⟩
  rw [hk9 q (Nat.lt_of_lt_of_le h3 hS.1)]
  exact hS.2.1 q h3 h4
end CALLS
end
section
/-! Rows of arrays by places that are numbers; the worlds of the class and of the reference. -/
def ix (i : Int32) (n j : Nat) : Prop := vp_in i n ∧ i.toNatClampNeg = j
theorem ixN {j n : Nat} (h : j < n) (hn : n < 2 ^ 31) : ix (nI j) n j := ⟨vp_in_nI h hn, nI_clamp (by omega)⟩
theorem ix8 {j : Nat} (h : j < 8) : ix (nI j) 8 j := ixN h (by decide)
theorem ix9 {j : Nat} (h : j < 9) : ix (nI j) 9 j := ixN h (by decide)
theorem ix64 {j : Nat} (h : j < 64) : ix (nI j) 64 j := ixN h (by decide)
theorem ix5 {j : Nat} (h : j < 500) : ix (nI j) 500 j := ixN h (by decide)
section ROWS
variable {p : Program} {l : Launch} {e : Env} {R : Room} {s : State} {m : MethodId} {args : Array Value} {below : List Frame} {meth : Method} {c : Code} {H : Heap} {locs : List Loc} {cells slots : Nat} {Q : State → Prop}
variable {cc : ByteArray} {pc : Nat} {ls : Array Slot} {rest : List Value} {D : va_G} {cl : List vw_C} {A : Nat → Prop} {a : Nat} {tys : List (ClassId × FieldType)} {ws : va_W} {H0 : Heap}
theorem nadd (hx : p.tables.exec = Jvm.exec) (hb : c.code = cc) {x y : Nat} (hdg : decode cc pc = .ok (.iadd, 1)) (k : W p l e R s m args below meth c H locs cells slots Q (F0 m (pc + 1) ls (.int (nI (x + y)) :: rest))) : W p l e R s m args below meth c H locs cells slots Q (F0 m pc ls (.int (nI y) :: .int (nI x) :: rest)) :=
  lv_iadd hx hb hdg (by rw [nI_add]; exact k)
theorem aI (hx : p.tables.exec = Jvm.exec) (hb : c.code = cc) (hK : va_K D cl tys s) (hP : va_P D cl ws H) (q0 t0 : Nat) {cA : ClassId} {n : Nat} {f : Nat → Int32} (ha : ws[q0]? = some (a, .inl (cA, n, .inl f))) (ht : tys[t0]? = some (cA, .int)) {i : Int32} {j : Nat} (h : ix i n j) (hdg : decode cc pc = .ok (.iaload, 1))
    (kk : W p l e R s m args below meth c H locs cells slots Q (F0 m (pc + 1) ls (.int (f j) :: rest))) : W p l e R s m args below meth c H locs cells slots Q (F0 m pc ls (.int i :: .ref a :: rest)) := va_iald hx hb hK hP q0 t0 ha ht h.1 hdg (by rw [h.2]; exact kk)
theorem aZ (hx : p.tables.exec = Jvm.exec) (hb : c.code = cc) (hK : va_K D cl tys s) (hP : va_P D cl ws H) (q0 t0 : Nat) {cA : ClassId} {n : Nat} {f : Nat → Int32} (ha : ws[q0]? = some (a, .inl (cA, n, .inl f))) (ht : tys[t0]? = some (cA, .boolean)) {i : Int32} {j : Nat} (h : ix i n j) (hdg : decode cc pc = .ok (.baload, 1))
    (kk : W p l e R s m args below meth c H locs cells slots Q (F0 m (pc + 1) ls (.int (f j) :: rest))) : W p l e R s m args below meth c H locs cells slots Q (F0 m pc ls (.int i :: .ref a :: rest)) := va_zald hx hb hK hP q0 t0 ha ht h.1 hdg (by rw [h.2]; exact kk)
theorem aJ (hx : p.tables.exec = Jvm.exec) (hb : c.code = cc) (hK : va_K D cl tys s) (hP : va_P D cl ws H) (q0 t0 : Nat) {cA : ClassId} {n : Nat} {f : Nat → Int64} (ha : ws[q0]? = some (a, .inl (cA, n, .inr (.inl f)))) (ht : tys[t0]? = some (cA, .long)) {i : Int32} {j : Nat} (h : ix i n j) (hdg : decode cc pc = .ok (.laload, 1))
    (kk : W p l e R s m args below meth c H locs cells slots Q (F0 m (pc + 1) ls (.long (f j) :: rest))) : W p l e R s m args below meth c H locs cells slots Q (F0 m pc ls (.int i :: .ref a :: rest)) := va_lald hx hb hK hP q0 t0 ha ht h.1 hdg (by rw [h.2]; exact kk)
theorem aG (hx : p.tables.exec = Jvm.exec) (hb : c.code = cc) (hK : va_K D cl tys s) (hP : va_P D cl ws H) (q0 t0 : Nat) {cA : ClassId} {n r : Nat} {f : Nat → Option Nat} {ty : FieldType} (ha : ws[q0]? = some (a, .inl (cA, n, .inr (.inr (.inr (.inr f)))))) (ht : tys[t0]? = some (cA, .array ty)) {i : Int32} {j : Nat} (h : ix i n j) (hr : f j = some r) (hdg : decode cc pc = .ok (.aaload, 1))
    (kk : W p l e R s m args below meth c H locs cells slots Q (F0 m (pc + 1) ls (.ref r :: rest))) : W p l e R s m args below meth c H locs cells slots Q (F0 m pc ls (.int i :: .ref a :: rest)) := by
  have hlt : i.toNatClampNeg < n := Nat.not_le.mp fun q => h.1 (Or.inr q)
  refine W.aald (v := .ref r) (ty := .array ty) hx hb (hP q0 _ ha) ((hK.2 t0 _ ht).1 n (fun j => va_rf (f j))) rfl (fun q => by cases q) (by show ¬ (i < 0 ∨ (arrV _ _ _).slots.size ≤ _); rw [arrV_size]; exact h.1) ?_ rfl rfl hdg kk
  show (arrV _ _ _).slots[_]? = _
  rw [arrV_read _ _ hlt, h.2, hr]
  rfl
theorem sI (hx : p.tables.exec = Jvm.exec) (hb : c.code = cc) (hK : va_K D cl tys s) (hP : va_P D cl ws H) (hD : va_D A ws) (hS : va_S A H0 H locs) (q0 t0 : Nat) {cA : ClassId} {n : Nat} {f : Nat → Int32} (ha : ws[q0]? = some (a, .inl (cA, n, .inl f))) (ht : tys[t0]? = some (cA, .int)) {i x : Int32} {j : Nat} (h : ix i n j) (hdg : decode cc pc = .ok (.iastore, 1))
    (kk : ∀ (H1 : Heap) (locs1 : List Loc), va_P D cl (ws.set q0 (a, .inl (cA, n, .inl (upd f j x)))) H1 → va_D A (ws.set q0 (a, .inl (cA, n, .inl (upd f j x)))) → va_S A H0 H1 locs1 → W p l e R s m args below meth c H1 locs1 cells slots Q (F0 m (pc + 1) ls rest)) : W p l e R s m args below meth c H locs cells slots Q (F0 m pc ls (.int x :: .int i :: .ref a :: rest)) :=
  va_iast hx hb hK hP hD hS q0 t0 ha ht h.1 hdg (fun H1 locs1 => by rw [h.2]; exact kk H1 locs1)
theorem sZ (hx : p.tables.exec = Jvm.exec) (hb : c.code = cc) (hK : va_K D cl tys s) (hP : va_P D cl ws H) (hD : va_D A ws) (hS : va_S A H0 H locs) (q0 t0 : Nat) {cA : ClassId} {n : Nat} {f : Nat → Int32} (ha : ws[q0]? = some (a, .inl (cA, n, .inl f))) (ht : tys[t0]? = some (cA, .boolean)) {i x : Int32} {j : Nat} (h : ix i n j) (hv : x = 0 ∨ x = 1) (hdg : decode cc pc = .ok (.bastore, 1))
    (kk : ∀ (H1 : Heap) (locs1 : List Loc), va_P D cl (ws.set q0 (a, .inl (cA, n, .inl (upd f j x)))) H1 → va_D A (ws.set q0 (a, .inl (cA, n, .inl (upd f j x)))) → va_S A H0 H1 locs1 → W p l e R s m args below meth c H1 locs1 cells slots Q (F0 m (pc + 1) ls rest)) : W p l e R s m args below meth c H locs cells slots Q (F0 m pc ls (.int x :: .int i :: .ref a :: rest)) := by
  have e : vp_nar .boolean x = x := by rcases hv with h | h <;> subst h <;> rfl
  exact va_zast hx hb hK hP hD hS q0 t0 ha ht h.1 hdg (fun H1 locs1 => by rw [h.2, e]; exact kk H1 locs1)
theorem sJ (hx : p.tables.exec = Jvm.exec) (hb : c.code = cc) (hK : va_K D cl tys s) (hP : va_P D cl ws H) (hD : va_D A ws) (hS : va_S A H0 H locs) (q0 t0 : Nat) {cA : ClassId} {n : Nat} {f : Nat → Int64} (ha : ws[q0]? = some (a, .inl (cA, n, .inr (.inl f)))) (ht : tys[t0]? = some (cA, .long)) {i : Int32} {x : Int64} {j : Nat} (h : ix i n j) (hdg : decode cc pc = .ok (.lastore, 1))
    (kk : ∀ (H1 : Heap) (locs1 : List Loc), va_P D cl (ws.set q0 (a, .inl (cA, n, .inr (.inl (vp_updL f j x))))) H1 → va_D A (ws.set q0 (a, .inl (cA, n, .inr (.inl (vp_updL f j x))))) → va_S A H0 H1 locs1 → W p l e R s m args below meth c H1 locs1 cells slots Q (F0 m (pc + 1) ls rest)) : W p l e R s m args below meth c H locs cells slots Q (F0 m pc ls (.long x :: .int i :: .ref a :: rest)) :=
  va_last hx hb hK hP hD hS q0 t0 ha ht h.1 hdg (fun H1 locs1 => by rw [h.2]; exact kk H1 locs1)
end ROWS
/-- the clients -/
def ClW (q : Nat → Nat) (k : Nat → ClassId) (th co bu : Nat → Int32) (tg : Nat → Int64) (wa se : Nat → Int32) (ld : Nat → Nat → Int64) : va_W :=
  [(q 0, .inr (0, [.ref (q 1), .ref (q 2), .ref (q 3), .ref (q 4), .ref (q 5), .ref (q 6), .ref (q 7)])), (q 1, .inl (k 0, 8, .inl th)), (q 2, .inl (k 1, 8, .inl co)), (q 3, .inl (k 1, 8, .inl bu)), (q 4, .inl (k 2, 8, .inr (.inl tg))), (q 5, .inl (k 1, 8, .inl wa)), (q 6, .inl (k 1, 8, .inl se)), (q 7, .inl (k 3, 8, .inr (.inr (.inr (.inr (fun i => some (q (8 + i)))))))), (q 8, .inl (k 2, 8, .inr (.inl (ld 0)))), (q 9, .inl (k 2, 8, .inr (.inl (ld 1)))), (q 10, .inl (k 2, 8, .inr (.inl (ld 2)))), (q 11, .inl (k 2, 8, .inr (.inl (ld 3)))), (q 12, .inl (k 2, 8, .inr (.inl (ld 4)))), (q 13, .inl (k 2, 8, .inr (.inl (ld 5)))), (q 14, .inl (k 2, 8, .inr (.inl (ld 6)))), (q 15, .inl (k 2, 8, .inr (.inl (ld 7))))]
/-- the requests -/
def RqW (q : Nat → Nat) (k : Nat → ClassId) (ow wr fi sz : Nat → Int32) (dl : Nat → Int64) (wt bl sh so : Nat → Int32) (tn sn un : Nat) : va_W :=
  [(q 0, .inr (1, [.ref (q 1), .ref (q 2), .ref (q 3), .ref (q 4), .ref (q 5), .ref (q 6), .ref (q 7), .ref (q 8), .ref (q 9), .int (nI tn), .int (nI sn), .int (nI un)])), (q 1, .inl (k 1, 500, .inl ow)), (q 2, .inl (k 0, 500, .inl wr)), (q 3, .inl (k 1, 500, .inl fi)), (q 4, .inl (k 1, 500, .inl sz)), (q 5, .inl (k 2, 500, .inr (.inl dl))), (q 6, .inl (k 0, 500, .inl wt)), (q 7, .inl (k 1, 500, .inl bl)), (q 8, .inl (k 1, 500, .inl sh)), (q 9, .inl (k 1, 500, .inl so))]
/-- the disk's own cell -/
def DkW (d qc qr : Nat) (ck : Int64) (hd : Int32) (po st : Int64) (sl le : Int32) : va_W := [(d, .inr (2, [.ref qc, .ref qr, .long ck, .int hd, .long po, .long st, .int sl, .int le]))]
/-- the reference -/
def MoW (q : Nat → Nat) (k : Nat → ClassId) (tr : Int32) (ck : Int64) (hd : Int32) (po : Int64) (th we bu : Nat → Int32) (tg se gr ba : Nat → Int64) (tn sn un : Nat) (ow fi sz so wr dn ur : Nat → Int32) (dl : Nat → Int64) (sl le : Int32) : va_W :=
  [(q 0, .inr (3, [.int tr, .long ck, .int hd, .long po, .ref (q 1), .ref (q 2), .ref (q 3), .ref (q 4), .ref (q 5), .ref (q 6), .ref (q 7), .int (nI tn), .int (nI sn), .int (nI un), .ref (q 8), .ref (q 9), .ref (q 10), .ref (q 11), .ref (q 12), .ref (q 13), .ref (q 14), .ref (q 15), .int sl, .int le])), (q 1, .inl (k 0, 8, .inl th)), (q 2, .inl (k 1, 8, .inl we)), (q 3, .inl (k 1, 8, .inl bu)), (q 4, .inl (k 2, 9, .inr (.inl tg))), (q 5, .inl (k 2, 8, .inr (.inl se))), (q 6, .inl (k 2, 8, .inr (.inl gr))), (q 7, .inl (k 2, 64, .inr (.inl ba))), (q 8, .inl (k 1, 500, .inl ow)), (q 9, .inl (k 1, 500, .inl fi)), (q 10, .inl (k 1, 500, .inl sz)), (q 11, .inl (k 1, 500, .inl so)), (q 12, .inl (k 0, 500, .inl wr)), (q 13, .inl (k 0, 500, .inl dn)), (q 14, .inl (k 0, 500, .inl ur)), (q 15, .inl (k 2, 500, .inr (.inl dl)))]
theorem ClW_row {q : Nat → Nat} {k : Nat → ClassId} {th co bu : Nat → Int32} {tg : Nat → Int64} {wa se : Nat → Int32} {ld : Nat → Nat → Int64} {i : Nat} (hi : i < 8) : (ClW q k th co bu tg wa se ld)[8 + i]? = some (q (8 + i), .inl (k 2, 8, .inr (.inl (ld i)))) := by
  rcases (show i = 0 ∨ i = 1 ∨ i = 2 ∨ i = 3 ∨ i = 4 ∨ i = 5 ∨ i = 6 ∨ i = 7 by omega) with h | h | h | h | h | h | h | h <;> subst h <;> rfl
theorem ClW_set {q : Nat → Nat} {k : Nat → ClassId} {th co bu : Nat → Int32} {tg : Nat → Int64} {wa se : Nat → Int32} {ld : Nat → Nat → Int64} {f : Nat → Int64} {i : Nat} (hi : i < 8) : (ClW q k th co bu tg wa se ld).set (8 + i) (q (8 + i), .inl (k 2, 8, .inr (.inl f))) = ClW q k th co bu tg wa se (va_up ld i f) := by
  rcases (show i = 0 ∨ i = 1 ∨ i = 2 ∨ i = 3 ∨ i = 4 ∨ i = 5 ∨ i = 6 ∨ i = 7 by omega) with h | h | h | h | h | h | h | h <;> subst h <;> rfl
end
section
/-! Words of the class's small methods. -/
def mxL (x y : Int64) : Int64 := if y < x then x else y
def abI (x : Int32) : Int32 := if 0 ≤ x then x else 0 - x
def oI : Option Nat → Int32
  | none => -1
  | some j => nI j
theorem lp_ge {i N : Nat} (hN : N < 2 ^ 31) (hi : i ≤ N) (c : nI N ≤ nI i) : i = N := by
  have := (nI_leI hN (by omega)).mp c
  omega
theorem lp_lt {i N : Nat} (hN : N < 2 ^ 31) (hi : i ≤ N) (c : ¬ nI N ≤ nI i) : i < N := by
  have := mt (nI_leI hN (by omega)).mpr c
  omega
/-- howMany -/
def hmN (th : Nat → Int32) : Nat → Nat
  | 0 => 0
  | i + 1 => if th i = 0 then hmN th i else hmN th i + 1
/-- forgetLead -/
def fgL (ld : Nat → Nat → Int64) (id : Nat) : Nat → Nat → Nat → Int64
  | 0 => ld
  | j + 1 => va_up (va_up (fgL ld id j) id (vp_updL (fgL ld id j id) j 0)) j (vp_updL (va_up (fgL ld id j) id (vp_updL (fgL ld id j id) j 0) j) id 0)
/-- noteService -/
def nsL (ld : Nat → Nat → Int64) (id : Nat) (g : Int64) : Nat → Nat → Nat → Int64
  | 0 => ld
  | j + 1 => va_up (va_up (nsL ld id g j) id (vp_updL (nsL ld id g j id) j (nsL ld id g j id j + g))) j (vp_updL (va_up (nsL ld id g j) id (vp_updL (nsL ld id g j id) j (nsL ld id g j id j + g)) j) id (va_up (nsL ld id g j) id (vp_updL (nsL ld id g j id) j (nsL ld id g j id j + g)) j id - g))
/-- nextInTurn -/
def nit (wa : Nat → Int32) (tg : Nat → Int64) : Nat → Option Nat
  | 0 => none
  | i + 1 => if wa i ≤ 0 then nit wa tg i else match nit wa tg i with
    | none => some i
    | some j => if tg j ≤ tg i then some j else some i
/-- greatestTag -/
def gtF (th : Nat → Int32) (tg : Nat → Int64) (x : Int64) : Nat → Int64
  | 0 => x
  | i + 1 => if th i = 0 then gtF th tg x i else mxL (gtF th tg x i) (tg i)
theorem nI_ne_m1 {j : Nat} (h : j < 2 ^ 31) : ¬ nI j = -1 := by
  intro q
  have a := nI_toInt h
  rw [q] at a
  have b : (-1 : Int32).toInt = -1 := by decide
  omega
theorem nI_nm1 (j : Nat) (h : j < 8) (c : nI j = -1) : False := nI_ne_m1 (by omega) c
def bI (P : Prop) [Decidable P] : Int32 := if P then nI 1 else nI 0
theorem bI_t {P : Prop} [Decidable P] (h : P) : nI 1 = bI P := (if_pos h).symm
theorem bI_f {P : Prop} [Decidable P] (h : ¬ P) : nI 0 = bI P := (if_neg h).symm
theorem bI_01 (P : Prop) [Decidable P] : bI P = 0 ∨ bI P = 1 := by
  unfold bI
  split
  · exact Or.inr rfl
  · exact Or.inl rfl
theorem bI_0 {P : Prop} [Decidable P] (h : bI P = 0) : ¬ P := by
  intro hp
  rw [← bI_t hp] at h
  exact absurd h (by decide)
theorem bI_1 {P : Prop} [Decidable P] (h : ¬ bI P = 0) : P := by
  by_cases hp : P
  · exact hp
  · exact absurd (by rw [← bI_f hp]; rfl) h
theorem ofI {x : Int32} {n : Nat} (h0 : ¬ x < 0) (h : ¬ nI n ≤ x) (hn : n < 2 ^ 31) : ∃ j : Nat, j < n ∧ x = nI j := by
  obtain ⟨j, h1, h2, -⟩ := pk_mu h0 h hn
  exact ⟨j, h1, h2⟩
/-- servedAt -/
def sAt (so : Nat → Int32) (sn : Nat) (x : Int32) : Int32 := if x < 0 then -1 else if nI sn ≤ x then -1 else so x.toNatClampNeg
/-- stateOf -/
def stF (wt bl sh : Nat → Int32) (t : Nat) : Int32 := if wt t = 0 then sh t else if bl t ≤ 0 then nI 1 else nI 0
/-- mustKeepOrder -/
abbrev mkO (ow wr fi sz : Nat → Int32) (a b : Nat) : Prop := ow a = ow b ∧ (¬ wr a = 0 ∨ ¬ wr b = 0) ∧ ¬ (fi b + sz b ≤ fi a) ∧ ¬ (fi a + sz a ≤ fi b)
/-- add -/
def adB (ow wr fi sz wt bl : Nat → Int32) (t : Nat) : Nat → Nat → Int32
  | 0 => bl
  | e + 1 => if wt e = 0 then adB ow wr fi sz wt bl t e else if mkO ow wr fi sz e t then upd (adB ow wr fi sz wt bl t e) t (adB ow wr fi sz wt bl t e t + nI 1) else adB ow wr fi sz wt bl t e
/-- markServed -/
def msB (ow wr fi sz bl : Nat → Int32) (t : Nat) : Nat → Nat → Int32
  | 0 => bl
  | e + 1 => if t < e then (if mkO ow wr fi sz t e then upd (msB ow wr fi sz bl t e) e (msB ow wr fi sz bl t e e - nI 1) else msB ow wr fi sz bl t e) else msB ow wr fi sz bl t e
theorem msB_lo {ow wr fi sz bl : Nat → Int32} {t : Nat} : ∀ e, e ≤ t + 1 → msB ow wr fi sz bl t e = bl
  | 0, _ => rfl
  | e + 1, h => by rw [msB, if_neg (by omega), msB_lo e (by omega)]
/-- mostUrgent -/
def muF (wt bl sh : Nat → Int32) (dl : Nat → Int64) (ck : Int64) : Nat → Option Nat
  | 0 => none
  | i + 1 => if stF wt bl sh i = nI 1 then (if ck < dl i then muF wt bl sh dl ck i else match muF wt bl sh dl ck i with
    | none => some i
    | some j => if dl j ≤ dl i then some j else some i) else muF wt bl sh dl ck i
/-- turnOf -/
def tuF (fi : Nat → Int32) (h : Int32) (t : Nat) : Int32 := if fi t < h then fi t + nI 100000 else fi t
/-- nextAlong -/
def naF (ow fi wt bl sh : Nat → Int32) (o h : Int32) : Nat → Option Nat
  | 0 => none
  | i + 1 => if stF wt bl sh i = nI 1 then (if ow i = o then match naF ow fi wt bl sh o h i with
    | none => some i
    | some j => if tuF fi h j ≤ tuF fi h i then some j else some i else naF ow fi wt bl sh o h i) else naF ow fi wt bl sh o h i
abbrev inw (x a b : Int32) : Prop := ¬ x < a ∧ ¬ b < x
/-- a client that is there -/
abbrev isT (th : Nat → Int32) (x : Int32) : Prop := ∃ j : Nat, j < 8 ∧ x = nI j ∧ ¬ th j = 0
abbrev IAE : String := "java/lang/IllegalArgumentException"
abbrev ISE : String := "java/lang/IllegalStateException"
abbrev IOB : String := "java/lang/IndexOutOfBoundsException"
theorem ofW {x : Int32} {n : Nat} (h : inw x (nI 0) (nI n)) (hn : n < 2 ^ 30) : ∃ j : Nat, j ≤ n ∧ x = nI j := by
  obtain ⟨h1, h2⟩ := h
  obtain ⟨j, hj, rfl⟩ := nI_of (x := x) h1
  refine ⟨j, ?_, rfl⟩
  have := mt (nI_ltI (by omega) (by omega)).mpr h2
  omega
theorem ofWd {x : Int32} {a n : Nat} (h : inw x (nI a) (nI n)) (hn : n < 2 ^ 30) (ha : a ≤ n) : ∃ j : Nat, a ≤ j ∧ j ≤ n ∧ x = nI j := by
  obtain ⟨h1, h2⟩ := h
  have h0 : ¬ x < 0 := by
    intro hx
    apply h1
    have e1 : (nI a).toInt = a := nI_toInt (by omega)
    have e0 : (0 : Int32).toInt = 0 := by decide
    rw [Int32.lt_iff_toInt_lt] at hx ⊢
    omega
  obtain ⟨j, hj, rfl⟩ := nI_of (x := x) h0
  refine ⟨j, ?_, ?_, rfl⟩
  · have := mt (nI_ltI (by omega) (by omega)).mpr h1
    omega
  · have := mt (nI_ltI (by omega) (by omega)).mpr h2
    omega
def oC {α : Type} (o : Option Nat) (d : α) (f : Nat → α) : α := match o with
  | none => d
  | some j => f j
theorem nit_lt {wa : Nat → Int32} {tg : Nat → Int64} : ∀ (n j : Nat), nit wa tg n = some j → j < n
  | 0, j, h => by cases h
  | n + 1, j, h => by
    rw [nit] at h
    split at h
    · have := nit_lt n j h; omega
    · split at h
      · cases h; omega
      · rename_i j0 hj0
        have := nit_lt n j0 hj0
        split at h <;> cases h <;> omega
theorem muF_lt {wt bl sh : Nat → Int32} {dl : Nat → Int64} {ck : Int64} : ∀ (n j : Nat), muF wt bl sh dl ck n = some j → j < n
  | 0, j, h => by cases h
  | n + 1, j, h => by
    rw [muF] at h
    split at h
    · split at h
      · have := muF_lt n j h; omega
      · split at h
        · cases h; omega
        · rename_i j0 hj0
          have := muF_lt n j0 hj0
          split at h <;> cases h <;> omega
    · have := muF_lt n j h; omega
theorem naF_lt {ow fi wt bl sh : Nat → Int32} {o x : Int32} : ∀ (n j : Nat), naF ow fi wt bl sh o x n = some j → j < n
  | 0, j, h => by cases h
  | n + 1, j, h => by
    rw [naF] at h
    split at h
    · split at h
      · split at h
        · cases h; omega
        · rename_i j0 hj0
          have := naF_lt n j0 hj0
          split at h <;> cases h <;> omega
      · have := naF_lt n j h; omega
    · have := naF_lt n j h; omega
/-- countOfDisk -/
def cdF (th : Nat → Int32) (tn sn un : Nat) (hd : Int32) (po : Int64) (sl le x : Int32) : Int64 :=
  if x = nI 0 then (nI (hmN th 8)).toInt64 else if x = nI 1 then (nI (tn - sn)).toInt64 else if x = nI 2 then (nI sn).toInt64 else if x = nI 3 then (nI un).toInt64 else if x = nI 4 then hd.toInt64 else if x = nI 5 then po else if x = nI 6 then sl.toInt64 else if x = nI 7 then le.toInt64 else (-1)
/-- count -/
def cnF (th wa se : Nat → Int32) (tn sn un : Nat) (hd : Int32) (po : Int64) (sl le x : Int32) : Int64 :=
  if inw x (nI 8) (nI 15) then (se (x.toNatClampNeg - 8)).toInt64 else if inw x (nI 16) (nI 23) then (wa (x.toNatClampNeg - 16)).toInt64 else cdF th tn sn un hd po sl le x
theorem tsw_out {x : Int32} (h0 : ¬ x = nI 0) (h1 : ¬ x = nI 1) (h2 : ¬ x = nI 2) (h3 : ¬ x = nI 3) (h4 : ¬ x = nI 4) (h5 : ¬ x = nI 5) (h6 : ¬ x = nI 6) (h7 : ¬ x = nI 7) : x.toInt < 0 ∨ 7 < x.toInt := by
  rcases pk_ix x (n := 8) (by decide) with h | h | ⟨j, hj, h⟩
  · left
    have e0 : (0 : Int32).toInt = 0 := by decide
    rw [Int32.lt_iff_toInt_lt] at h
    omega
  · right
    have e : (nI 8).toInt = 8 := nI_toInt (by decide)
    rw [Int32.le_iff_toInt_le] at h
    omega
  · exfalso
    rcases (show j = 0 ∨ j = 1 ∨ j = 2 ∨ j = 3 ∨ j = 4 ∨ j = 5 ∨ j = 6 ∨ j = 7 by omega) with h9 | h9 | h9 | h9 | h9 | h9 | h9 | h9 <;> subst h9
    · exact h0 h
    · exact h1 h
    · exact h2 h
    · exact h3 h
    · exact h4 h
    · exact h5 h
    · exact h6 h
    · exact h7 h
theorem muF_st {wt bl sh : Nat → Int32} {dl : Nat → Int64} {ck : Int64} : ∀ (n j : Nat), muF wt bl sh dl ck n = some j → stF wt bl sh j = nI 1 ∧ ¬ ck < dl j
  | 0, j, h => by cases h
  | n + 1, j, h => by
    rw [muF] at h
    split at h
    · split at h
      · exact muF_st n j h
      · split at h
        · cases h; exact ⟨by assumption, by assumption⟩
        · rename_i j0 hj0
          have := muF_st n j0 hj0
          split at h <;> cases h
          · exact this
          · exact ⟨by assumption, by assumption⟩
    · exact muF_st n j h
theorem naF_st {ow fi wt bl sh : Nat → Int32} {o x : Int32} : ∀ (n j : Nat), naF ow fi wt bl sh o x n = some j → stF wt bl sh j = nI 1 ∧ ow j = o
  | 0, j, h => by cases h
  | n + 1, j, h => by
    rw [naF] at h
    split at h
    · split at h
      · split at h
        · cases h; exact ⟨by assumption, by assumption⟩
        · rename_i j0 hj0
          have := naF_st n j0 hj0
          split at h <;> cases h
          · exact this
          · exact ⟨by assumption, by assumption⟩
      · exact naF_st n j h
    · exact naF_st n j h
/-- beginSlice, where there is none -/
abbrev bsP (sl le : Int32) (st : Int64) (wa bu : Nat → Int32) (tg : Nat → Int64) (sl1 le1 : Int32) (st1 : Int64) : Prop :=
  (sl = -1 ∧ sl1 = oC (nit wa tg 8) sl (fun j => nI j) ∧ le1 = oC (nit wa tg 8) le bu ∧ st1 = oC (nit wa tg 8) st tg) ∨ (¬ sl = -1 ∧ sl1 = sl ∧ le1 = le ∧ st1 = st)
end
section
theorem mwX0_isThere_0 : Cond.fieldLink RX0 9 "ShareDisk$Clients" "there" "[Z" ∈ wsX0_isThere := by decide +kernel
theorem iwX0_isThere_X0 : ∀ w ∈ wsX00, w ∈ wsX0_isThere := by decide +kernel
set_option maxHeartbeats 4000000 in
set_option maxRecDepth 100000 in
theorem kX0_isThere (l : Launch) (D : va_G) (k : Nat → ClassId) (q : Nat → Nat) (zz : Nat) (th co bu : Nat → Int32) (tg : Nat → Int64) (wa se : Nat → Int32) (ld : Nat → Nat → Int64) (id : Nat) (hid : id < 8) (hth : ∀ i, th i = 0 ∨ th i = 1) : MI l yX0_isThere wsX0_isThere ({ frames := 0, cells := 0, slots := 0, locals := 0 } : Room) D k (ClW q k th co bu tg wa se ld) zz [.ref (q 0), .int (nI id)] (fun r9 w9 => r9 = (th id) ∧ w9 = ClW q k th co bu tg wa se ld) 0 0 := by
  refine bodyOf (Qc := fun A => QI D k (fun r9 w9 => r9 = (th id) ∧ w9 = ClW q k th co bu tg wa se ld) A) (cc := cX0_isThere) (maxL := 2) (ret := (some .boolean)) (by decide) rfl (Nat.le_of_ble_eq_true rfl) ?_
  intro p e s m below meth c A ls hc hA hK hP hD hS hl
  obtain ⟨hx, hb, hml, hr, hts, hown, hlocks, hin⟩ := (show _ from hc)
  have hl : lv_has ls 2 [(0, .ref (q 0)), (1, .int (nI id))] := hl
  refine lv_aload_n hx hb dX0_isThere_0 rfl (lv_at hl 0 rfl) ?_
  refine va_get (D := D) (ci := 0) (v := .ref (q 1)) (C := RX0) (T := TX0) (N := 7) hx hb hts iwX0_isThere_X0 hown hK hP 0 rfl rfl 0 (by decide) (hts (Cond.fieldLink RX0 9 "ShareDisk$Clients" "there" "[Z") mwX0_isThere_0) (fun _ h9 => h9) rfl dX0_isThere_1 ?_
  refine lv_iload_n hx hb dX0_isThere_4 rfl (lv_at hl 1 rfl) ?_
  refine aZ hx hb hK hP 1 0 rfl rfl (ix8 hid) dX0_isThere_5 ?_
  exact retZ hc dX0_isThere_6 hK hP hD hS (hth id) (⟨rfl, rfl⟩) (Nat.le_of_ble_eq_true rfl) (Nat.le_of_ble_eq_true rfl)
theorem mwX0_budgetOf_0 : Cond.fieldLink RX0 19 "ShareDisk$Clients" "budget" "[I" ∈ wsX0_budgetOf := by decide +kernel
theorem iwX0_budgetOf_X0 : ∀ w ∈ wsX00, w ∈ wsX0_budgetOf := by decide +kernel
set_option maxHeartbeats 4000000 in
set_option maxRecDepth 100000 in
theorem kX0_budgetOf (l : Launch) (D : va_G) (k : Nat → ClassId) (q : Nat → Nat) (zz : Nat) (th co bu : Nat → Int32) (tg : Nat → Int64) (wa se : Nat → Int32) (ld : Nat → Nat → Int64) (id : Nat) (hid : id < 8) : MI l yX0_budgetOf wsX0_budgetOf ({ frames := 0, cells := 0, slots := 0, locals := 0 } : Room) D k (ClW q k th co bu tg wa se ld) zz [.ref (q 0), .int (nI id)] (fun r9 w9 => r9 = (bu id) ∧ w9 = ClW q k th co bu tg wa se ld) 0 0 := by
  refine bodyOf (Qc := fun A => QI D k (fun r9 w9 => r9 = (bu id) ∧ w9 = ClW q k th co bu tg wa se ld) A) (cc := cX0_budgetOf) (maxL := 2) (ret := (some .int)) (by decide) rfl (Nat.le_of_ble_eq_true rfl) ?_
  intro p e s m below meth c A ls hc hA hK hP hD hS hl
  obtain ⟨hx, hb, hml, hr, hts, hown, hlocks, hin⟩ := (show _ from hc)
  have hl : lv_has ls 2 [(0, .ref (q 0)), (1, .int (nI id))] := hl
  refine lv_aload_n hx hb dX0_budgetOf_0 rfl (lv_at hl 0 rfl) ?_
  refine va_get (D := D) (ci := 0) (v := .ref (q 3)) (C := RX0) (T := TX0) (N := 7) hx hb hts iwX0_budgetOf_X0 hown hK hP 0 rfl rfl 2 (by decide) (hts (Cond.fieldLink RX0 19 "ShareDisk$Clients" "budget" "[I") mwX0_budgetOf_0) (fun _ h9 => h9) rfl dX0_budgetOf_1 ?_
  refine lv_iload_n hx hb dX0_budgetOf_4 rfl (lv_at hl 1 rfl) ?_
  refine aI hx hb hK hP 3 1 rfl rfl (ix8 hid) dX0_budgetOf_5 ?_
  exact retI hc dX0_budgetOf_6 hK hP hD hS (⟨rfl, rfl⟩) (Nat.le_of_ble_eq_true rfl) (Nat.le_of_ble_eq_true rfl)
theorem mwX0_tagOf_0 : Cond.fieldLink RX0 22 "ShareDisk$Clients" "tag" "[J" ∈ wsX0_tagOf := by decide +kernel
theorem iwX0_tagOf_X0 : ∀ w ∈ wsX00, w ∈ wsX0_tagOf := by decide +kernel
set_option maxHeartbeats 4000000 in
set_option maxRecDepth 100000 in
theorem kX0_tagOf (l : Launch) (D : va_G) (k : Nat → ClassId) (q : Nat → Nat) (zz : Nat) (th co bu : Nat → Int32) (tg : Nat → Int64) (wa se : Nat → Int32) (ld : Nat → Nat → Int64) (id : Nat) (hid : id < 8) : ML l yX0_tagOf wsX0_tagOf ({ frames := 0, cells := 0, slots := 0, locals := 0 } : Room) D k (ClW q k th co bu tg wa se ld) zz [.ref (q 0), .int (nI id)] (fun r9 w9 => r9 = (tg id) ∧ w9 = ClW q k th co bu tg wa se ld) 0 0 := by
  refine bodyOf (Qc := fun A => QL D k (fun r9 w9 => r9 = (tg id) ∧ w9 = ClW q k th co bu tg wa se ld) A) (cc := cX0_tagOf) (maxL := 2) (ret := (some .long)) (by decide) rfl (Nat.le_of_ble_eq_true rfl) ?_
  intro p e s m below meth c A ls hc hA hK hP hD hS hl
  obtain ⟨hx, hb, hml, hr, hts, hown, hlocks, hin⟩ := (show _ from hc)
  have hl : lv_has ls 2 [(0, .ref (q 0)), (1, .int (nI id))] := hl
  refine lv_aload_n hx hb dX0_tagOf_0 rfl (lv_at hl 0 rfl) ?_
  refine va_get (D := D) (ci := 0) (v := .ref (q 4)) (C := RX0) (T := TX0) (N := 7) hx hb hts iwX0_tagOf_X0 hown hK hP 0 rfl rfl 3 (by decide) (hts (Cond.fieldLink RX0 22 "ShareDisk$Clients" "tag" "[J") mwX0_tagOf_0) (fun _ h9 => h9) rfl dX0_tagOf_1 ?_
  refine lv_iload_n hx hb dX0_tagOf_4 rfl (lv_at hl 1 rfl) ?_
  refine aJ hx hb hK hP 4 2 rfl rfl (ix8 hid) dX0_tagOf_5 ?_
  exact retL hc dX0_tagOf_6 hK hP hD hS (⟨rfl, rfl⟩) (Nat.le_of_ble_eq_true rfl) (Nat.le_of_ble_eq_true rfl)
theorem mwX0_waitingOf_0 : Cond.fieldLink RX0 26 "ShareDisk$Clients" "waiting" "[I" ∈ wsX0_waitingOf := by decide +kernel
theorem iwX0_waitingOf_X0 : ∀ w ∈ wsX00, w ∈ wsX0_waitingOf := by decide +kernel
set_option maxHeartbeats 4000000 in
set_option maxRecDepth 100000 in
theorem kX0_waitingOf (l : Launch) (D : va_G) (k : Nat → ClassId) (q : Nat → Nat) (zz : Nat) (th co bu : Nat → Int32) (tg : Nat → Int64) (wa se : Nat → Int32) (ld : Nat → Nat → Int64) (id : Nat) (hid : id < 8) : MI l yX0_waitingOf wsX0_waitingOf ({ frames := 0, cells := 0, slots := 0, locals := 0 } : Room) D k (ClW q k th co bu tg wa se ld) zz [.ref (q 0), .int (nI id)] (fun r9 w9 => r9 = (wa id) ∧ w9 = ClW q k th co bu tg wa se ld) 0 0 := by
  refine bodyOf (Qc := fun A => QI D k (fun r9 w9 => r9 = (wa id) ∧ w9 = ClW q k th co bu tg wa se ld) A) (cc := cX0_waitingOf) (maxL := 2) (ret := (some .int)) (by decide) rfl (Nat.le_of_ble_eq_true rfl) ?_
  intro p e s m below meth c A ls hc hA hK hP hD hS hl
  obtain ⟨hx, hb, hml, hr, hts, hown, hlocks, hin⟩ := (show _ from hc)
  have hl : lv_has ls 2 [(0, .ref (q 0)), (1, .int (nI id))] := hl
  refine lv_aload_n hx hb dX0_waitingOf_0 rfl (lv_at hl 0 rfl) ?_
  refine va_get (D := D) (ci := 0) (v := .ref (q 5)) (C := RX0) (T := TX0) (N := 7) hx hb hts iwX0_waitingOf_X0 hown hK hP 0 rfl rfl 4 (by decide) (hts (Cond.fieldLink RX0 26 "ShareDisk$Clients" "waiting" "[I") mwX0_waitingOf_0) (fun _ h9 => h9) rfl dX0_waitingOf_1 ?_
  refine lv_iload_n hx hb dX0_waitingOf_4 rfl (lv_at hl 1 rfl) ?_
  refine aI hx hb hK hP 5 1 rfl rfl (ix8 hid) dX0_waitingOf_5 ?_
  exact retI hc dX0_waitingOf_6 hK hP hD hS (⟨rfl, rfl⟩) (Nat.le_of_ble_eq_true rfl) (Nat.le_of_ble_eq_true rfl)
theorem mwX0_sectorsOf_0 : Cond.fieldLink RX0 29 "ShareDisk$Clients" "sectors" "[I" ∈ wsX0_sectorsOf := by decide +kernel
theorem iwX0_sectorsOf_X0 : ∀ w ∈ wsX00, w ∈ wsX0_sectorsOf := by decide +kernel
set_option maxHeartbeats 4000000 in
set_option maxRecDepth 100000 in
theorem kX0_sectorsOf (l : Launch) (D : va_G) (k : Nat → ClassId) (q : Nat → Nat) (zz : Nat) (th co bu : Nat → Int32) (tg : Nat → Int64) (wa se : Nat → Int32) (ld : Nat → Nat → Int64) (id : Nat) (hid : id < 8) : MI l yX0_sectorsOf wsX0_sectorsOf ({ frames := 0, cells := 0, slots := 0, locals := 0 } : Room) D k (ClW q k th co bu tg wa se ld) zz [.ref (q 0), .int (nI id)] (fun r9 w9 => r9 = (se id) ∧ w9 = ClW q k th co bu tg wa se ld) 0 0 := by
  refine bodyOf (Qc := fun A => QI D k (fun r9 w9 => r9 = (se id) ∧ w9 = ClW q k th co bu tg wa se ld) A) (cc := cX0_sectorsOf) (maxL := 2) (ret := (some .int)) (by decide) rfl (Nat.le_of_ble_eq_true rfl) ?_
  intro p e s m below meth c A ls hc hA hK hP hD hS hl
  obtain ⟨hx, hb, hml, hr, hts, hown, hlocks, hin⟩ := (show _ from hc)
  have hl : lv_has ls 2 [(0, .ref (q 0)), (1, .int (nI id))] := hl
  refine lv_aload_n hx hb dX0_sectorsOf_0 rfl (lv_at hl 0 rfl) ?_
  refine va_get (D := D) (ci := 0) (v := .ref (q 6)) (C := RX0) (T := TX0) (N := 7) hx hb hts iwX0_sectorsOf_X0 hown hK hP 0 rfl rfl 5 (by decide) (hts (Cond.fieldLink RX0 29 "ShareDisk$Clients" "sectors" "[I") mwX0_sectorsOf_0) (fun _ h9 => h9) rfl dX0_sectorsOf_1 ?_
  refine lv_iload_n hx hb dX0_sectorsOf_4 rfl (lv_at hl 1 rfl) ?_
  refine aI hx hb hK hP 6 1 rfl rfl (ix8 hid) dX0_sectorsOf_5 ?_
  exact retI hc dX0_sectorsOf_6 hK hP hD hS (⟨rfl, rfl⟩) (Nat.le_of_ble_eq_true rfl) (Nat.le_of_ble_eq_true rfl)
theorem mwX0_enter_0 : Cond.fieldLink RX0 9 "ShareDisk$Clients" "there" "[Z" ∈ wsX0_enter := by decide +kernel
theorem mwX0_enter_1 : Cond.fieldLink RX0 22 "ShareDisk$Clients" "tag" "[J" ∈ wsX0_enter := by decide +kernel
theorem iwX0_enter_X0 : ∀ w ∈ wsX00, w ∈ wsX0_enter := by decide +kernel
set_option maxHeartbeats 4000000 in
set_option maxRecDepth 100000 in
theorem kX0_enter (l : Launch) (D : va_G) (k : Nat → ClassId) (q : Nat → Nat) (zz : Nat) (th co bu : Nat → Int32) (tg : Nat → Int64) (wa se : Nat → Int32) (ld : Nat → Nat → Int64) (id : Nat) (x : Int64) (hid : id < 8) : MV l yX0_enter wsX0_enter ({ frames := 0, cells := 0, slots := 0, locals := 0 } : Room) D k (ClW q k th co bu tg wa se ld) zz [.ref (q 0), .int (nI id), .long x] (fun w9 => w9 = ClW q k (upd th id (nI 1)) co bu (vp_updL tg id x) wa se ld) 0 0 := by
  refine bodyOf (Qc := fun A => QV D k (fun w9 => w9 = ClW q k (upd th id (nI 1)) co bu (vp_updL tg id x) wa se ld) A) (cc := cX0_enter) (maxL := 4) (ret := none) (by decide) rfl (Nat.le_of_ble_eq_true rfl) ?_
  intro p e s m below meth c A ls hc hA hK hP hD hS hl
  obtain ⟨hx, hb, hml, hr, hts, hown, hlocks, hin⟩ := (show _ from hc)
  have hl : lv_has ls 4 [(0, .ref (q 0)), (1, .int (nI id)), (2, .long x)] := hl
  refine lv_aload_n hx hb dX0_enter_0 rfl (lv_at hl 0 rfl) ?_
  refine va_get (D := D) (ci := 0) (v := .ref (q 1)) (C := RX0) (T := TX0) (N := 7) hx hb hts iwX0_enter_X0 hown hK hP 0 rfl rfl 0 (by decide) (hts (Cond.fieldLink RX0 9 "ShareDisk$Clients" "there" "[Z") mwX0_enter_0) (fun _ h9 => h9) rfl dX0_enter_1 ?_
  refine lv_iload_n hx hb dX0_enter_4 rfl (lv_at hl 1 rfl) ?_
  refine lv_iconst (v := nI 1) hx hb dX0_enter_5 (by decide) ?_
  refine sZ hx hb hK hP hD hS 1 0 rfl rfl (ix8 hid) (Or.inr rfl) dX0_enter_6 (fun H locs hP hD hS => ?_)
  have hP : va_P D vwCl (ClW q k (upd th id (nI 1)) co bu tg wa se ld) H := hP
  have hD : va_D A (ClW q k (upd th id (nI 1)) co bu tg wa se ld) := hD
  refine lv_aload_n hx hb dX0_enter_7 rfl (lv_at hl 0 rfl) ?_
  refine va_get (D := D) (ci := 0) (v := .ref (q 4)) (C := RX0) (T := TX0) (N := 7) hx hb hts iwX0_enter_X0 hown hK hP 0 rfl rfl 3 (by decide) (hts (Cond.fieldLink RX0 22 "ShareDisk$Clients" "tag" "[J") mwX0_enter_1) (fun _ h9 => h9) rfl dX0_enter_8 ?_
  refine lv_iload_n hx hb dX0_enter_11 rfl (lv_at hl 1 rfl) ?_
  refine lv_lload_n hx hb dX0_enter_12 rfl (lv_at hl 2 rfl) ?_
  refine sJ hx hb hK hP hD hS 4 2 rfl rfl (ix8 hid) dX0_enter_13 (fun H locs hP hD hS => ?_)
  have hP : va_P D vwCl (ClW q k (upd th id (nI 1)) co bu (vp_updL tg id x) wa se ld) H := hP
  have hD : va_D A (ClW q k (upd th id (nI 1)) co bu (vp_updL tg id x) wa se ld) := hD
  exact retV hc dX0_enter_14 hK hP hD hS (rfl) (Nat.le_of_ble_eq_true rfl) (Nat.le_of_ble_eq_true rfl)
theorem mwX0_setShare_0 : Cond.fieldLink RX0 15 "ShareDisk$Clients" "sectorCost" "[I" ∈ wsX0_setShare := by decide +kernel
theorem mwX0_setShare_1 : Cond.fieldLink RX0 19 "ShareDisk$Clients" "budget" "[I" ∈ wsX0_setShare := by decide +kernel
theorem iwX0_setShare_X0 : ∀ w ∈ wsX00, w ∈ wsX0_setShare := by decide +kernel
set_option maxHeartbeats 4000000 in
set_option maxRecDepth 100000 in
theorem kX0_setShare (l : Launch) (D : va_G) (k : Nat → ClassId) (q : Nat → Nat) (zz : Nat) (th co bu : Nat → Int32) (tg : Nat → Int64) (wa se : Nat → Int32) (ld : Nat → Nat → Int64) (id : Nat) (x : Int32) (y : Int32) (hid : id < 8) : MV l yX0_setShare wsX0_setShare ({ frames := 0, cells := 0, slots := 0, locals := 0 } : Room) D k (ClW q k th co bu tg wa se ld) zz [.ref (q 0), .int (nI id), .int x, .int y] (fun w9 => w9 = ClW q k th (upd co id x) (upd bu id y) tg wa se ld) 0 0 := by
  refine bodyOf (Qc := fun A => QV D k (fun w9 => w9 = ClW q k th (upd co id x) (upd bu id y) tg wa se ld) A) (cc := cX0_setShare) (maxL := 4) (ret := none) (by decide) rfl (Nat.le_of_ble_eq_true rfl) ?_
  intro p e s m below meth c A ls hc hA hK hP hD hS hl
  obtain ⟨hx, hb, hml, hr, hts, hown, hlocks, hin⟩ := (show _ from hc)
  have hl : lv_has ls 4 [(0, .ref (q 0)), (1, .int (nI id)), (2, .int x), (3, .int y)] := hl
  refine lv_aload_n hx hb dX0_setShare_0 rfl (lv_at hl 0 rfl) ?_
  refine va_get (D := D) (ci := 0) (v := .ref (q 2)) (C := RX0) (T := TX0) (N := 7) hx hb hts iwX0_setShare_X0 hown hK hP 0 rfl rfl 1 (by decide) (hts (Cond.fieldLink RX0 15 "ShareDisk$Clients" "sectorCost" "[I") mwX0_setShare_0) (fun _ h9 => h9) rfl dX0_setShare_1 ?_
  refine lv_iload_n hx hb dX0_setShare_4 rfl (lv_at hl 1 rfl) ?_
  refine lv_iload_n hx hb dX0_setShare_5 rfl (lv_at hl 2 rfl) ?_
  refine sI hx hb hK hP hD hS 2 1 rfl rfl (ix8 hid) dX0_setShare_6 (fun H locs hP hD hS => ?_)
  have hP : va_P D vwCl (ClW q k th (upd co id x) bu tg wa se ld) H := hP
  have hD : va_D A (ClW q k th (upd co id x) bu tg wa se ld) := hD
  refine lv_aload_n hx hb dX0_setShare_7 rfl (lv_at hl 0 rfl) ?_
  refine va_get (D := D) (ci := 0) (v := .ref (q 3)) (C := RX0) (T := TX0) (N := 7) hx hb hts iwX0_setShare_X0 hown hK hP 0 rfl rfl 2 (by decide) (hts (Cond.fieldLink RX0 19 "ShareDisk$Clients" "budget" "[I") mwX0_setShare_1) (fun _ h9 => h9) rfl dX0_setShare_8 ?_
  refine lv_iload_n hx hb dX0_setShare_11 rfl (lv_at hl 1 rfl) ?_
  refine lv_iload_n hx hb dX0_setShare_12 rfl (lv_at hl 3 rfl) ?_
  refine sI hx hb hK hP hD hS 3 1 rfl rfl (ix8 hid) dX0_setShare_13 (fun H locs hP hD hS => ?_)
  have hP : va_P D vwCl (ClW q k th (upd co id x) (upd bu id y) tg wa se ld) H := hP
  have hD : va_D A (ClW q k th (upd co id x) (upd bu id y) tg wa se ld) := hD
  exact retV hc dX0_setShare_14 hK hP hD hS (rfl) (Nat.le_of_ble_eq_true rfl) (Nat.le_of_ble_eq_true rfl)
theorem mwX0_leave_0 : Cond.fieldLink RX0 9 "ShareDisk$Clients" "there" "[Z" ∈ wsX0_leave := by decide +kernel
theorem mwX0_leave_1 : Cond.fieldLink RX0 29 "ShareDisk$Clients" "sectors" "[I" ∈ wsX0_leave := by decide +kernel
theorem iwX0_leave_X0 : ∀ w ∈ wsX00, w ∈ wsX0_leave := by decide +kernel
set_option maxHeartbeats 4000000 in
set_option maxRecDepth 100000 in
theorem kX0_leave (l : Launch) (D : va_G) (k : Nat → ClassId) (q : Nat → Nat) (zz : Nat) (th co bu : Nat → Int32) (tg : Nat → Int64) (wa se : Nat → Int32) (ld : Nat → Nat → Int64) (id : Nat) (hid : id < 8) : MV l yX0_leave wsX0_leave ({ frames := 0, cells := 0, slots := 0, locals := 0 } : Room) D k (ClW q k th co bu tg wa se ld) zz [.ref (q 0), .int (nI id)] (fun w9 => w9 = ClW q k (upd th id (nI 0)) co bu tg wa (upd se id (nI 0)) ld) 0 0 := by
  refine bodyOf (Qc := fun A => QV D k (fun w9 => w9 = ClW q k (upd th id (nI 0)) co bu tg wa (upd se id (nI 0)) ld) A) (cc := cX0_leave) (maxL := 2) (ret := none) (by decide) rfl (Nat.le_of_ble_eq_true rfl) ?_
  intro p e s m below meth c A ls hc hA hK hP hD hS hl
  obtain ⟨hx, hb, hml, hr, hts, hown, hlocks, hin⟩ := (show _ from hc)
  have hl : lv_has ls 2 [(0, .ref (q 0)), (1, .int (nI id))] := hl
  refine lv_aload_n hx hb dX0_leave_0 rfl (lv_at hl 0 rfl) ?_
  refine va_get (D := D) (ci := 0) (v := .ref (q 1)) (C := RX0) (T := TX0) (N := 7) hx hb hts iwX0_leave_X0 hown hK hP 0 rfl rfl 0 (by decide) (hts (Cond.fieldLink RX0 9 "ShareDisk$Clients" "there" "[Z") mwX0_leave_0) (fun _ h9 => h9) rfl dX0_leave_1 ?_
  refine lv_iload_n hx hb dX0_leave_4 rfl (lv_at hl 1 rfl) ?_
  refine lv_iconst (v := nI 0) hx hb dX0_leave_5 (by decide) ?_
  refine sZ hx hb hK hP hD hS 1 0 rfl rfl (ix8 hid) (Or.inl rfl) dX0_leave_6 (fun H locs hP hD hS => ?_)
  have hP : va_P D vwCl (ClW q k (upd th id (nI 0)) co bu tg wa se ld) H := hP
  have hD : va_D A (ClW q k (upd th id (nI 0)) co bu tg wa se ld) := hD
  refine lv_aload_n hx hb dX0_leave_7 rfl (lv_at hl 0 rfl) ?_
  refine va_get (D := D) (ci := 0) (v := .ref (q 6)) (C := RX0) (T := TX0) (N := 7) hx hb hts iwX0_leave_X0 hown hK hP 0 rfl rfl 5 (by decide) (hts (Cond.fieldLink RX0 29 "ShareDisk$Clients" "sectors" "[I") mwX0_leave_1) (fun _ h9 => h9) rfl dX0_leave_8 ?_
  refine lv_iload_n hx hb dX0_leave_11 rfl (lv_at hl 1 rfl) ?_
  refine lv_iconst (v := nI 0) hx hb dX0_leave_12 (by decide) ?_
  refine sI hx hb hK hP hD hS 6 1 rfl rfl (ix8 hid) dX0_leave_13 (fun H locs hP hD hS => ?_)
  have hP : va_P D vwCl (ClW q k (upd th id (nI 0)) co bu tg wa (upd se id (nI 0)) ld) H := hP
  have hD : va_D A (ClW q k (upd th id (nI 0)) co bu tg wa (upd se id (nI 0)) ld) := hD
  exact retV hc dX0_leave_14 hK hP hD hS (rfl) (Nat.le_of_ble_eq_true rfl) (Nat.le_of_ble_eq_true rfl)
theorem mwX0_howMany_0 : Cond.fieldLink RX0 9 "ShareDisk$Clients" "there" "[Z" ∈ wsX0_howMany := by decide +kernel
theorem iwX0_howMany_X0 : ∀ w ∈ wsX00, w ∈ wsX0_howMany := by decide +kernel
set_option maxHeartbeats 4000000 in
set_option maxRecDepth 100000 in
theorem kX0_howMany (l : Launch) (D : va_G) (k : Nat → ClassId) (q : Nat → Nat) (zz : Nat) (th co bu : Nat → Int32) (tg : Nat → Int64) (wa se : Nat → Int32) (ld : Nat → Nat → Int64) : MI l yX0_howMany wsX0_howMany ({ frames := 0, cells := 0, slots := 0, locals := 0 } : Room) D k (ClW q k th co bu tg wa se ld) zz [.ref (q 0)] (fun r9 w9 => r9 = (nI (hmN th 8)) ∧ w9 = ClW q k th co bu tg wa se ld) 0 0 := by
  refine bodyOf (Qc := fun A => QI D k (fun r9 w9 => r9 = (nI (hmN th 8)) ∧ w9 = ClW q k th co bu tg wa se ld) A) (cc := cX0_howMany) (maxL := 3) (ret := (some .int)) (by decide) rfl (Nat.le_of_ble_eq_true rfl) ?_
  intro p e s m below meth c A ls hc hA hK hP hD hS hl
  obtain ⟨hx, hb, hml, hr, hts, hown, hlocks, hin⟩ := (show _ from hc)
  have hl : lv_has ls 3 [(0, .ref (q 0))] := hl
  refine lv_iconst (v := nI 0) hx hb dX0_howMany_0 (by decide) ?_
  refine lv_istore_n (lv' := [(1, .int (nI 0)), (0, .ref (q 0))]) hx hb dX0_howMany_1 rfl hl (by decide) rfl (fun ls hl => ?_)
  refine lv_iconst (v := nI 0) hx hb dX0_howMany_2 (by decide) ?_
  refine lv_istore_n (lv' := [(2, .int (nI 0)), (1, .int (nI 0)), (0, .ref (q 0))]) hx hb dX0_howMany_3 rfl hl (by decide) rfl (fun ls hl => ?_)
  have loop4 : ∀ (n : Nat) (i : Nat) (f : Nat), (i ≤ 8) → (f = hmN th i) → 8 - i < n → ∀ (H : Heap) (locs : List Loc) (ls : Array Slot), va_P D vwCl (ClW q k th co bu tg wa se ld) H → va_D A (ClW q k th co bu tg wa se ld) → va_S A s.heap H locs → lv_has ls 3 [(0, .ref (q 0)), (1, .int (nI f)), (2, .int (nI i))] → W p l e ({ frames := 0, cells := 0, slots := 0, locals := 0 } : Room) s m [.ref (q 0)].toArray below meth c H locs 0 0 (MQ below (QI D k (fun r9 w9 => r9 = (nI (hmN th 8)) ∧ w9 = ClW q k th co bu tg wa se ld) A) [.ref (q 0)].toArray s 0 0 A) (F0 m 4 ls []) := by
    intro n
    induction n with
    | zero => intro i f hi hf hn9; exact absurd hn9 (Nat.not_lt_zero _)
    | succ n ih =>
      intro i f hi hf hn9 H locs ls hP hD hS hl
      refine lv_iload_n hx hb dX0_howMany_4 rfl (lv_at hl 2 rfl) ?_
      refine lv_bipush (v := nI 8) hx hb dX0_howMany_5 (by decide) ?_
      refine lv_icmp_ge (tgt := 28) hx hb dX0_howMany_7 (by decide) (fun c1 => ?_) (fun c1 => ?_)
      · have hi8 : i = 8 := lp_ge (by decide) hi c1
        refine lv_iload_n hx hb dX0_howMany_28 rfl (lv_at hl 1 rfl) ?_
        exact retI hc dX0_howMany_29 hK hP hD hS (⟨by rw [hf, hi8], rfl⟩) (Nat.le_of_ble_eq_true rfl) (Nat.le_of_ble_eq_true rfl)
      · have hi8 : i < 8 := lp_lt (by decide) hi c1
        refine lv_aload_n hx hb dX0_howMany_10 rfl (lv_at hl 0 rfl) ?_
        refine va_get (D := D) (ci := 0) (v := .ref (q 1)) (C := RX0) (T := TX0) (N := 7) hx hb hts iwX0_howMany_X0 hown hK hP 0 rfl rfl 0 (by decide) (hts (Cond.fieldLink RX0 9 "ShareDisk$Clients" "there" "[Z") mwX0_howMany_0) (fun _ h9 => h9) rfl dX0_howMany_11 ?_
        refine lv_iload_n hx hb dX0_howMany_14 rfl (lv_at hl 2 rfl) ?_
        refine aZ hx hb hK hP 1 0 rfl rfl (ix8 hi8) dX0_howMany_15 ?_
        refine lv_if_eq (tgt := 22) hx hb dX0_howMany_16 (by decide) (fun c2 => ?_) (fun c2 => ?_)
        · refine lv_iinc (v := nI (i + 1)) (lv' := [(2, .int (nI (i + 1))), (0, .ref (q 0)), (1, .int (nI f))]) hx hb dX0_howMany_22 hl (k := 2) rfl (by rw [show Int32.ofInt 1 = nI 1 by decide, nI_add]) (by decide) rfl (fun ls hl => ?_)
          refine lv_goto (tgt := 4) hx hb dX0_howMany_25 (by decide) ?_
          exact ih (i + 1) (f) (by omega) (by simp [hmN, hf, c2]) (by omega) _ _ _ hP hD hS (lv_sub hl [1, 2, 0] rfl)
        · refine lv_iinc (v := nI (f + 1)) (lv' := [(1, .int (nI (f + 1))), (0, .ref (q 0)), (2, .int (nI i))]) hx hb dX0_howMany_19 hl (k := 1) rfl (by rw [show Int32.ofInt 1 = nI 1 by decide, nI_add]) (by decide) rfl (fun ls hl => ?_)
          refine lv_iinc (v := nI (i + 1)) (lv' := [(2, .int (nI (i + 1))), (1, .int (nI (f + 1))), (0, .ref (q 0))]) hx hb dX0_howMany_22 hl (k := 2) rfl (by rw [show Int32.ofInt 1 = nI 1 by decide, nI_add]) (by decide) rfl (fun ls hl => ?_)
          refine lv_goto (tgt := 4) hx hb dX0_howMany_25 (by decide) ?_
          exact ih (i + 1) (f + 1) (by omega) (by simp [hmN, hf, c2]) (by omega) _ _ _ hP hD hS (lv_sub hl [2, 1, 0] rfl)
  exact loop4 _ 0 0 (by omega) rfl (Nat.lt_succ_self _) s.heap _ _ hP hD hS (lv_sub hl [2, 1, 0] rfl)
theorem mwX0_forgetLead_0 : Cond.fieldLink RX0 34 "ShareDisk$Clients" "lead" "[[J" ∈ wsX0_forgetLead := by decide +kernel
theorem iwX0_forgetLead_X0 : ∀ w ∈ wsX00, w ∈ wsX0_forgetLead := by decide +kernel
set_option maxHeartbeats 4000000 in
set_option maxRecDepth 100000 in
theorem kX0_forgetLead (l : Launch) (D : va_G) (k : Nat → ClassId) (q : Nat → Nat) (zz : Nat) (th co bu : Nat → Int32) (tg : Nat → Int64) (wa se : Nat → Int32) (ld : Nat → Nat → Int64) (id : Nat) (hid : id < 8) : MV l yX0_forgetLead wsX0_forgetLead ({ frames := 0, cells := 0, slots := 0, locals := 0 } : Room) D k (ClW q k th co bu tg wa se ld) zz [.ref (q 0), .int (nI id)] (fun w9 => w9 = ClW q k th co bu tg wa se (fgL ld id 8)) 0 0 := by
  refine bodyOf (Qc := fun A => QV D k (fun w9 => w9 = ClW q k th co bu tg wa se (fgL ld id 8)) A) (cc := cX0_forgetLead) (maxL := 3) (ret := none) (by decide) rfl (Nat.le_of_ble_eq_true rfl) ?_
  intro p e s m below meth c A ls hc hA hK hP hD hS hl
  obtain ⟨hx, hb, hml, hr, hts, hown, hlocks, hin⟩ := (show _ from hc)
  have hl : lv_has ls 3 [(0, .ref (q 0)), (1, .int (nI id))] := hl
  refine lv_iconst (v := nI 0) hx hb dX0_forgetLead_0 (by decide) ?_
  refine lv_istore_n (lv' := [(2, .int (nI 0)), (0, .ref (q 0)), (1, .int (nI id))]) hx hb dX0_forgetLead_1 rfl hl (by decide) rfl (fun ls hl => ?_)
  have loop2 : ∀ (n : Nat) (i : Nat) (L : Nat → Nat → Int64), (i ≤ 8) → (L = fgL ld id i) → 8 - i < n → ∀ (H : Heap) (locs : List Loc) (ls : Array Slot), va_P D vwCl (ClW q k th co bu tg wa se L) H → va_D A (ClW q k th co bu tg wa se L) → va_S A s.heap H locs → lv_has ls 3 [(0, .ref (q 0)), (1, .int (nI id)), (2, .int (nI i))] → W p l e ({ frames := 0, cells := 0, slots := 0, locals := 0 } : Room) s m [.ref (q 0), .int (nI id)].toArray below meth c H locs 0 0 (MQ below (QV D k (fun w9 => w9 = ClW q k th co bu tg wa se (fgL ld id 8)) A) [.ref (q 0), .int (nI id)].toArray s 0 0 A) (F0 m 2 ls []) := by
    intro n
    induction n with
    | zero => intro i L hi hL hn9; exact absurd hn9 (Nat.not_lt_zero _)
    | succ n ih =>
      intro i L hi hL hn9 H locs ls hP hD hS hl
      refine lv_iload_n hx hb dX0_forgetLead_2 rfl (lv_at hl 2 rfl) ?_
      refine lv_bipush (v := nI 8) hx hb dX0_forgetLead_3 (by decide) ?_
      refine lv_icmp_ge (tgt := 32) hx hb dX0_forgetLead_5 (by decide) (fun c1 => ?_) (fun c1 => ?_)
      · have hi8 : i = 8 := lp_ge (by decide) hi c1
        exact retV hc dX0_forgetLead_32 hK hP hD hS (by rw [hL, hi8]) (Nat.le_of_ble_eq_true rfl) (Nat.le_of_ble_eq_true rfl)
      · have hi8 : i < 8 := lp_lt (by decide) hi c1
        refine lv_aload_n hx hb dX0_forgetLead_8 rfl (lv_at hl 0 rfl) ?_
        refine va_get (D := D) (ci := 0) (v := .ref (q 7)) (C := RX0) (T := TX0) (N := 7) hx hb hts iwX0_forgetLead_X0 hown hK hP 0 rfl rfl 6 (by decide) (hts (Cond.fieldLink RX0 34 "ShareDisk$Clients" "lead" "[[J") mwX0_forgetLead_0) (fun _ h9 => h9) rfl dX0_forgetLead_9 ?_
        refine lv_iload_n hx hb dX0_forgetLead_12 rfl (lv_at hl 1 rfl) ?_
        refine aG hx hb hK hP 7 3 (r := q (8 + id)) rfl rfl (ix8 hid) rfl dX0_forgetLead_13 ?_
        refine lv_iload_n hx hb dX0_forgetLead_14 rfl (lv_at hl 2 rfl) ?_
        refine lv_lconst (v := 0) hx hb dX0_forgetLead_15 rfl ?_
        refine sJ hx hb hK hP hD hS (8 + id) 2 (ClW_row hid) rfl (ix8 hi8) dX0_forgetLead_16 (fun H locs hP hD hS => ?_)
        rw [ClW_set hid] at hP hD
        have hP : va_P D vwCl (ClW q k th co bu tg wa se (va_up L id (vp_updL (L id) i 0))) H := hP
        have hD : va_D A (ClW q k th co bu tg wa se (va_up L id (vp_updL (L id) i 0))) := hD
        refine lv_aload_n hx hb dX0_forgetLead_17 rfl (lv_at hl 0 rfl) ?_
        refine va_get (D := D) (ci := 0) (v := .ref (q 7)) (C := RX0) (T := TX0) (N := 7) hx hb hts iwX0_forgetLead_X0 hown hK hP 0 rfl rfl 6 (by decide) (hts (Cond.fieldLink RX0 34 "ShareDisk$Clients" "lead" "[[J") mwX0_forgetLead_0) (fun _ h9 => h9) rfl dX0_forgetLead_18 ?_
        refine lv_iload_n hx hb dX0_forgetLead_21 rfl (lv_at hl 2 rfl) ?_
        refine aG hx hb hK hP 7 3 (r := q (8 + i)) rfl rfl (ix8 hi8) rfl dX0_forgetLead_22 ?_
        refine lv_iload_n hx hb dX0_forgetLead_23 rfl (lv_at hl 1 rfl) ?_
        refine lv_lconst (v := 0) hx hb dX0_forgetLead_24 rfl ?_
        refine sJ hx hb hK hP hD hS (8 + i) 2 (ClW_row hi8) rfl (ix8 hid) dX0_forgetLead_25 (fun H locs hP hD hS => ?_)
        rw [ClW_set hi8] at hP hD
        have hP : va_P D vwCl (ClW q k th co bu tg wa se (va_up (va_up L id (vp_updL (L id) i 0)) i (vp_updL ((va_up L id (vp_updL (L id) i 0)) i) id 0))) H := hP
        have hD : va_D A (ClW q k th co bu tg wa se (va_up (va_up L id (vp_updL (L id) i 0)) i (vp_updL ((va_up L id (vp_updL (L id) i 0)) i) id 0))) := hD
        refine lv_iinc (v := nI (i + 1)) (lv' := [(2, .int (nI (i + 1))), (0, .ref (q 0)), (1, .int (nI id))]) hx hb dX0_forgetLead_26 hl (k := 2) rfl (by rw [show Int32.ofInt 1 = nI 1 by decide, nI_add]) (by decide) rfl (fun ls hl => ?_)
        refine lv_goto (tgt := 2) hx hb dX0_forgetLead_29 (by decide) ?_
        exact ih (i + 1) _ (by omega) (by rw [hL]; rfl) (by omega) _ _ _ hP hD hS (lv_sub hl [1, 2, 0] rfl)
  exact loop2 _ 0 ld (by omega) rfl (Nat.lt_succ_self _) s.heap _ _ hP hD hS (lv_sub hl [1, 2, 0] rfl)
theorem mwX0_noteRequest_0 : Cond.fieldLink RX0 26 "ShareDisk$Clients" "waiting" "[I" ∈ wsX0_noteRequest := by decide +kernel
theorem mwX0_noteRequest_1 : Cond.fieldLink RX0 22 "ShareDisk$Clients" "tag" "[J" ∈ wsX0_noteRequest := by decide +kernel
theorem mwX0_noteRequest_2 : Cond.methodLink RX0 37 Lib.MathLoose.max_long.x ∈ wsX0_noteRequest := by decide +kernel
theorem mwX0_noteRequest_3 : Cond.static Lib.MathLoose.max_long.x ∈ wsX0_noteRequest := by decide +kernel
theorem mwX0_noteRequest_4 : Cond.initialized "java/lang/Math" ∈ wsX0_noteRequest := by decide +kernel
theorem mwX0_noteRequest_5 : Cond.code Lib.MathLoose.max_long.x Lib.MathLoose.max_long.code 4 (some .long) ∈ wsX0_noteRequest := by decide +kernel
theorem iwX0_noteRequest_X0 : ∀ w ∈ wsX00, w ∈ wsX0_noteRequest := by decide +kernel
set_option maxHeartbeats 4000000 in
set_option maxRecDepth 100000 in
theorem kX0_noteRequest (l : Launch) (D : va_G) (k : Nat → ClassId) (q : Nat → Nat) (zz : Nat) (th co bu : Nat → Int32) (tg : Nat → Int64) (wa se : Nat → Int32) (ld : Nat → Nat → Int64) (id : Nat) (x : Int64) (hid : id < 8) : MV l yX0_noteRequest wsX0_noteRequest ({ frames := 1, cells := 0, slots := 0, locals := 23 } : Room) D k (ClW q k th co bu tg wa se ld) zz [.ref (q 0), .int (nI id), .long x] (fun w9 => w9 = ClW q k th co bu (if wa id = 0 then vp_updL tg id (mxL (tg id) x) else tg) (upd wa id (wa id + nI 1)) se (if wa id = 0 then fgL ld id 8 else ld)) 0 0 := by
  refine bodyOf (Qc := fun A => QV D k (fun w9 => w9 = ClW q k th co bu (if wa id = 0 then vp_updL tg id (mxL (tg id) x) else tg) (upd wa id (wa id + nI 1)) se (if wa id = 0 then fgL ld id 8 else ld)) A) (cc := cX0_noteRequest) (maxL := 4) (ret := none) (by decide) rfl (Nat.le_of_ble_eq_true rfl) ?_
  intro p e s m below meth c A ls hc hA hK hP hD hS hl
  obtain ⟨hx, hb, hml, hr, hts, hown, hlocks, hin⟩ := (show _ from hc)
  have hl : lv_has ls 4 [(0, .ref (q 0)), (1, .int (nI id)), (2, .long x)] := hl
  refine lv_aload_n hx hb dX0_noteRequest_0 rfl (lv_at hl 0 rfl) ?_
  refine va_get (D := D) (ci := 0) (v := .ref (q 5)) (C := RX0) (T := TX0) (N := 7) hx hb hts iwX0_noteRequest_X0 hown hK hP 0 rfl rfl 4 (by decide) (hts (Cond.fieldLink RX0 26 "ShareDisk$Clients" "waiting" "[I") mwX0_noteRequest_0) (fun _ h9 => h9) rfl dX0_noteRequest_1 ?_
  refine lv_iload_n hx hb dX0_noteRequest_4 rfl (lv_at hl 1 rfl) ?_
  refine aI hx hb hK hP 5 1 rfl rfl (ix8 hid) dX0_noteRequest_5 ?_
  refine lv_if_ne (tgt := 30) hx hb dX0_noteRequest_6 (by decide) (fun c1 => ?_) (fun c1 => ?_)
  · refine lv_aload_n hx hb dX0_noteRequest_30 rfl (lv_at hl 0 rfl) ?_
    refine va_get (D := D) (ci := 0) (v := .ref (q 5)) (C := RX0) (T := TX0) (N := 7) hx hb hts iwX0_noteRequest_X0 hown hK hP 0 rfl rfl 4 (by decide) (hts (Cond.fieldLink RX0 26 "ShareDisk$Clients" "waiting" "[I") mwX0_noteRequest_0) (fun _ h9 => h9) rfl dX0_noteRequest_31 ?_
    refine lv_iload_n hx hb dX0_noteRequest_34 rfl (lv_at hl 1 rfl) ?_
    refine lv_dup2_11 hx hb dX0_noteRequest_35 rfl rfl ?_
    refine aI hx hb hK hP 5 1 rfl rfl (ix8 hid) dX0_noteRequest_36 ?_
    refine lv_iconst (v := nI 1) hx hb dX0_noteRequest_37 (by decide) ?_
    refine lv_iadd hx hb dX0_noteRequest_38 ?_
    refine sI hx hb hK hP hD hS 5 1 rfl rfl (ix8 hid) dX0_noteRequest_39 (fun H locs hP hD hS => ?_)
    have hP : va_P D vwCl (ClW q k th co bu tg (upd wa id ((wa id) + (nI 1))) se ld) H := hP
    have hD : va_D A (ClW q k th co bu tg (upd wa id ((wa id) + (nI 1))) se ld) := hD
    exact retV hc dX0_noteRequest_40 hK hP hD hS (by rw [if_neg c1, if_neg c1]) (Nat.le_of_ble_eq_true rfl) (Nat.le_of_ble_eq_true rfl)
  · refine lv_aload_n hx hb dX0_noteRequest_9 rfl (lv_at hl 0 rfl) ?_
    refine va_get (D := D) (ci := 0) (v := .ref (q 4)) (C := RX0) (T := TX0) (N := 7) hx hb hts iwX0_noteRequest_X0 hown hK hP 0 rfl rfl 3 (by decide) (hts (Cond.fieldLink RX0 22 "ShareDisk$Clients" "tag" "[J") mwX0_noteRequest_1) (fun _ h9 => h9) rfl dX0_noteRequest_10 ?_
    refine lv_iload_n hx hb dX0_noteRequest_13 rfl (lv_at hl 1 rfl) ?_
    refine lv_aload_n hx hb dX0_noteRequest_14 rfl (lv_at hl 0 rfl) ?_
    refine va_get (D := D) (ci := 0) (v := .ref (q 4)) (C := RX0) (T := TX0) (N := 7) hx hb hts iwX0_noteRequest_X0 hown hK hP 0 rfl rfl 3 (by decide) (hts (Cond.fieldLink RX0 22 "ShareDisk$Clients" "tag" "[J") mwX0_noteRequest_1) (fun _ h9 => h9) rfl dX0_noteRequest_15 ?_
    refine lv_iload_n hx hb dX0_noteRequest_18 rfl (lv_at hl 1 rfl) ?_
    refine aJ hx hb hK hP 4 2 rfl rfl (ix8 hid) dX0_noteRequest_19 ?_
    refine lv_lload_n hx hb dX0_noteRequest_20 rfl (lv_at hl 2 rfl) ?_
    refine va_mmax_long hx hb (hml.trans hl.1.symm) hown (hts (Cond.methodLink RX0 37 Lib.MathLoose.max_long.x) mwX0_noteRequest_2) (hts (Cond.static Lib.MathLoose.max_long.x) mwX0_noteRequest_3) (hts (Cond.initialized "java/lang/Math") mwX0_noteRequest_4) (hts (Cond.code Lib.MathLoose.max_long.x Lib.MathLoose.max_long.code 4 (some .long)) mwX0_noteRequest_5) (Nat.le_of_ble_eq_true rfl) (Nat.le_of_ble_eq_true rfl) (Nat.le_of_ble_eq_true rfl) (Nat.le_of_ble_eq_true rfl) dX0_noteRequest_21 ?_
    refine sJ hx hb hK hP hD hS 4 2 rfl rfl (ix8 hid) dX0_noteRequest_24 (fun H locs hP hD hS => ?_)
    have hP : va_P D vwCl (ClW q k th co bu (vp_updL tg id (mxL (tg id) x)) wa se ld) H := hP
    have hD : va_D A (ClW q k th co bu (vp_updL tg id (mxL (tg id) x)) wa se ld) := hD
    refine lv_aload_n hx hb dX0_noteRequest_25 rfl (lv_at hl 0 rfl) ?_
    refine lv_iload_n hx hb dX0_noteRequest_26 rfl (lv_at hl 1 rfl) ?_
    refine goVV0 hc (kX0_forgetLead l D k q H.size th co bu (vp_updL tg id (mxL (tg id) x)) wa se ld id (by first | assumption | omega)) (cwV 1 hts gX0_noteRequest_X0_forgetLead rfl rfl rfl (by decide +kernel) ⟨(Nat.le_of_ble_eq_true rfl), (Nat.le_of_ble_eq_true rfl)⟩) hP hD hK hS hA (ci := 0) (q0 := 0) rfl rfl rfl hl.1 rfl (Nat.le_of_ble_eq_true rfl) dX0_noteRequest_27 (Nat.le_of_ble_eq_true rfl) (Nat.le_of_ble_eq_true rfl) (fun B9 H locs hq hP hD hS => ?_)
    subst hq
    have hP : va_P D vwCl (ClW q k th co bu (vp_updL tg id (mxL (tg id) x)) wa se (fgL ld id 8)) H := hP
    have hD : va_D A (ClW q k th co bu (vp_updL tg id (mxL (tg id) x)) wa se (fgL ld id 8)) := hD
    refine lv_aload_n hx hb dX0_noteRequest_30 rfl (lv_at hl 0 rfl) ?_
    refine va_get (D := D) (ci := 0) (v := .ref (q 5)) (C := RX0) (T := TX0) (N := 7) hx hb hts iwX0_noteRequest_X0 hown hK hP 0 rfl rfl 4 (by decide) (hts (Cond.fieldLink RX0 26 "ShareDisk$Clients" "waiting" "[I") mwX0_noteRequest_0) (fun _ h9 => h9) rfl dX0_noteRequest_31 ?_
    refine lv_iload_n hx hb dX0_noteRequest_34 rfl (lv_at hl 1 rfl) ?_
    refine lv_dup2_11 hx hb dX0_noteRequest_35 rfl rfl ?_
    refine aI hx hb hK hP 5 1 rfl rfl (ix8 hid) dX0_noteRequest_36 ?_
    refine lv_iconst (v := nI 1) hx hb dX0_noteRequest_37 (by decide) ?_
    refine lv_iadd hx hb dX0_noteRequest_38 ?_
    refine sI hx hb hK hP hD hS 5 1 rfl rfl (ix8 hid) dX0_noteRequest_39 (fun H locs hP hD hS => ?_)
    have hP : va_P D vwCl (ClW q k th co bu (vp_updL tg id (mxL (tg id) x)) (upd wa id ((wa id) + (nI 1))) se (fgL ld id 8)) H := hP
    have hD : va_D A (ClW q k th co bu (vp_updL tg id (mxL (tg id) x)) (upd wa id ((wa id) + (nI 1))) se (fgL ld id 8)) := hD
    exact retV hc dX0_noteRequest_40 hK hP hD hS (by rw [if_pos c1, if_pos c1]) (Nat.le_of_ble_eq_true rfl) (Nat.le_of_ble_eq_true rfl)
theorem mwX0_noteService_0 : Cond.fieldLink RX0 15 "ShareDisk$Clients" "sectorCost" "[I" ∈ wsX0_noteService := by decide +kernel
theorem mwX0_noteService_1 : Cond.fieldLink RX0 22 "ShareDisk$Clients" "tag" "[J" ∈ wsX0_noteService := by decide +kernel
theorem mwX0_noteService_2 : Cond.fieldLink RX0 29 "ShareDisk$Clients" "sectors" "[I" ∈ wsX0_noteService := by decide +kernel
theorem mwX0_noteService_3 : Cond.fieldLink RX0 26 "ShareDisk$Clients" "waiting" "[I" ∈ wsX0_noteService := by decide +kernel
theorem mwX0_noteService_4 : Cond.fieldLink RX0 34 "ShareDisk$Clients" "lead" "[[J" ∈ wsX0_noteService := by decide +kernel
theorem iwX0_noteService_X0 : ∀ w ∈ wsX00, w ∈ wsX0_noteService := by decide +kernel
set_option maxHeartbeats 4000000 in
set_option maxRecDepth 100000 in
theorem kX0_noteService (l : Launch) (D : va_G) (k : Nat → ClassId) (q : Nat → Nat) (zz : Nat) (th co bu : Nat → Int32) (tg : Nat → Int64) (wa se : Nat → Int32) (ld : Nat → Nat → Int64) (id : Nat) (z : Int32) (hid : id < 8) : MV l yX0_noteService wsX0_noteService ({ frames := 0, cells := 0, slots := 0, locals := 0 } : Room) D k (ClW q k th co bu tg wa se ld) zz [.ref (q 0), .int (nI id), .int z] (fun w9 => w9 = ClW q k th co bu (vp_updL tg id (tg id + (co id).toInt64 * z.toInt64)) (upd wa id (wa id - nI 1)) (upd se id (se id + z)) (nsL ld id ((co id).toInt64 * z.toInt64) 8)) 0 0 := by
  refine bodyOf (Qc := fun A => QV D k (fun w9 => w9 = ClW q k th co bu (vp_updL tg id (tg id + (co id).toInt64 * z.toInt64)) (upd wa id (wa id - nI 1)) (upd se id (se id + z)) (nsL ld id ((co id).toInt64 * z.toInt64) 8)) A) (cc := cX0_noteService) (maxL := 6) (ret := none) (by decide) rfl (Nat.le_of_ble_eq_true rfl) ?_
  intro p e s m below meth c A ls hc hA hK hP hD hS hl
  obtain ⟨hx, hb, hml, hr, hts, hown, hlocks, hin⟩ := (show _ from hc)
  have hl : lv_has ls 6 [(0, .ref (q 0)), (1, .int (nI id)), (2, .int z)] := hl
  refine lv_aload_n hx hb dX0_noteService_0 rfl (lv_at hl 0 rfl) ?_
  refine va_get (D := D) (ci := 0) (v := .ref (q 2)) (C := RX0) (T := TX0) (N := 7) hx hb hts iwX0_noteService_X0 hown hK hP 0 rfl rfl 1 (by decide) (hts (Cond.fieldLink RX0 15 "ShareDisk$Clients" "sectorCost" "[I") mwX0_noteService_0) (fun _ h9 => h9) rfl dX0_noteService_1 ?_
  refine lv_iload_n hx hb dX0_noteService_4 rfl (lv_at hl 1 rfl) ?_
  refine aI hx hb hK hP 2 1 rfl rfl (ix8 hid) dX0_noteService_5 ?_
  refine lv_i2l (v := (co id).toInt64) hx hb dX0_noteService_6 rfl ?_
  refine lv_iload_n hx hb dX0_noteService_7 rfl (lv_at hl 2 rfl) ?_
  refine lv_i2l (v := z.toInt64) hx hb dX0_noteService_8 rfl ?_
  refine lv_lmul hx hb dX0_noteService_9 ?_
  refine lv_lstore_n (lv' := [(3, .long (((co id).toInt64) * z.toInt64)), (0, .ref (q 0)), (1, .int (nI id)), (2, .int z)]) hx hb dX0_noteService_10 rfl hl (by decide) rfl (fun ls hl => ?_)
  refine lv_aload_n hx hb dX0_noteService_11 rfl (lv_at hl 1 rfl) ?_
  refine va_get (D := D) (ci := 0) (v := .ref (q 4)) (C := RX0) (T := TX0) (N := 7) hx hb hts iwX0_noteService_X0 hown hK hP 0 rfl rfl 3 (by decide) (hts (Cond.fieldLink RX0 22 "ShareDisk$Clients" "tag" "[J") mwX0_noteService_1) (fun _ h9 => h9) rfl dX0_noteService_12 ?_
  refine lv_iload_n hx hb dX0_noteService_15 rfl (lv_at hl 2 rfl) ?_
  refine lv_dup2_11 hx hb dX0_noteService_16 rfl rfl ?_
  refine aJ hx hb hK hP 4 2 rfl rfl (ix8 hid) dX0_noteService_17 ?_
  refine lv_lload_n hx hb dX0_noteService_18 rfl (lv_at hl 0 rfl) ?_
  refine lv_ladd hx hb dX0_noteService_19 ?_
  refine sJ hx hb hK hP hD hS 4 2 rfl rfl (ix8 hid) dX0_noteService_20 (fun H locs hP hD hS => ?_)
  have hP : va_P D vwCl (ClW q k th co bu (vp_updL tg id ((tg id) + (((co id).toInt64) * z.toInt64))) wa se ld) H := hP
  have hD : va_D A (ClW q k th co bu (vp_updL tg id ((tg id) + (((co id).toInt64) * z.toInt64))) wa se ld) := hD
  refine lv_aload_n hx hb dX0_noteService_21 rfl (lv_at hl 1 rfl) ?_
  refine va_get (D := D) (ci := 0) (v := .ref (q 6)) (C := RX0) (T := TX0) (N := 7) hx hb hts iwX0_noteService_X0 hown hK hP 0 rfl rfl 5 (by decide) (hts (Cond.fieldLink RX0 29 "ShareDisk$Clients" "sectors" "[I") mwX0_noteService_2) (fun _ h9 => h9) rfl dX0_noteService_22 ?_
  refine lv_iload_n hx hb dX0_noteService_25 rfl (lv_at hl 2 rfl) ?_
  refine lv_dup2_11 hx hb dX0_noteService_26 rfl rfl ?_
  refine aI hx hb hK hP 6 1 rfl rfl (ix8 hid) dX0_noteService_27 ?_
  refine lv_iload_n hx hb dX0_noteService_28 rfl (lv_at hl 3 rfl) ?_
  refine lv_iadd hx hb dX0_noteService_29 ?_
  refine sI hx hb hK hP hD hS 6 1 rfl rfl (ix8 hid) dX0_noteService_30 (fun H locs hP hD hS => ?_)
  have hP : va_P D vwCl (ClW q k th co bu (vp_updL tg id ((tg id) + (((co id).toInt64) * z.toInt64))) wa (upd se id ((se id) + z)) ld) H := hP
  have hD : va_D A (ClW q k th co bu (vp_updL tg id ((tg id) + (((co id).toInt64) * z.toInt64))) wa (upd se id ((se id) + z)) ld) := hD
  refine lv_aload_n hx hb dX0_noteService_31 rfl (lv_at hl 1 rfl) ?_
  refine va_get (D := D) (ci := 0) (v := .ref (q 5)) (C := RX0) (T := TX0) (N := 7) hx hb hts iwX0_noteService_X0 hown hK hP 0 rfl rfl 4 (by decide) (hts (Cond.fieldLink RX0 26 "ShareDisk$Clients" "waiting" "[I") mwX0_noteService_3) (fun _ h9 => h9) rfl dX0_noteService_32 ?_
  refine lv_iload_n hx hb dX0_noteService_35 rfl (lv_at hl 2 rfl) ?_
  refine lv_dup2_11 hx hb dX0_noteService_36 rfl rfl ?_
  refine aI hx hb hK hP 5 1 rfl rfl (ix8 hid) dX0_noteService_37 ?_
  refine lv_iconst (v := nI 1) hx hb dX0_noteService_38 (by decide) ?_
  refine lv_isub hx hb dX0_noteService_39 ?_
  refine sI hx hb hK hP hD hS 5 1 rfl rfl (ix8 hid) dX0_noteService_40 (fun H locs hP hD hS => ?_)
  have hP : va_P D vwCl (ClW q k th co bu (vp_updL tg id ((tg id) + (((co id).toInt64) * z.toInt64))) (upd wa id ((wa id) - (nI 1))) (upd se id ((se id) + z)) ld) H := hP
  have hD : va_D A (ClW q k th co bu (vp_updL tg id ((tg id) + (((co id).toInt64) * z.toInt64))) (upd wa id ((wa id) - (nI 1))) (upd se id ((se id) + z)) ld) := hD
  refine lv_iconst (v := nI 0) hx hb dX0_noteService_41 (by decide) ?_
  refine lv_istore (lv' := [(5, .int (nI 0)), (3, .long (((co id).toInt64) * z.toInt64)), (0, .ref (q 0)), (1, .int (nI id)), (2, .int z)]) hx hb dX0_noteService_42 hl (by decide) rfl (fun ls hl => ?_)
  have loop44 : ∀ (n : Nat) (i : Nat) (L : Nat → Nat → Int64), (i ≤ 8) → (L = nsL ld id ((co id).toInt64 * z.toInt64) i) → 8 - i < n → ∀ (H : Heap) (locs : List Loc) (ls : Array Slot), va_P D vwCl (ClW q k th co bu (vp_updL tg id ((tg id) + (((co id).toInt64) * z.toInt64))) (upd wa id ((wa id) - (nI 1))) (upd se id ((se id) + z)) L) H → va_D A (ClW q k th co bu (vp_updL tg id ((tg id) + (((co id).toInt64) * z.toInt64))) (upd wa id ((wa id) - (nI 1))) (upd se id ((se id) + z)) L) → va_S A s.heap H locs → lv_has ls 6 [(0, .ref (q 0)), (1, .int (nI id)), (2, .int z), (3, .long (((co id).toInt64) * z.toInt64)), (5, .int (nI i))] → W p l e ({ frames := 0, cells := 0, slots := 0, locals := 0 } : Room) s m [.ref (q 0), .int (nI id), .int z].toArray below meth c H locs 0 0 (MQ below (QV D k (fun w9 => w9 = ClW q k th co bu (vp_updL tg id (tg id + (co id).toInt64 * z.toInt64)) (upd wa id (wa id - nI 1)) (upd se id (se id + z)) (nsL ld id ((co id).toInt64 * z.toInt64) 8)) A) [.ref (q 0), .int (nI id), .int z].toArray s 0 0 A) (F0 m 44 ls []) := by
    intro n
    induction n with
    | zero => intro i L hi hL hn9; exact absurd hn9 (Nat.not_lt_zero _)
    | succ n ih =>
      intro i L hi hL hn9 H locs ls hP hD hS hl
      refine lv_iload hx hb dX0_noteService_44 (lv_at hl 4 rfl) ?_
      refine lv_bipush (v := nI 8) hx hb dX0_noteService_46 (by decide) ?_
      refine lv_icmp_ge (tgt := 83) hx hb dX0_noteService_48 (by decide) (fun c1 => ?_) (fun c1 => ?_)
      · have hi8 : i = 8 := lp_ge (by decide) hi c1
        exact retV hc dX0_noteService_83 hK hP hD hS (by rw [hL, hi8]) (Nat.le_of_ble_eq_true rfl) (Nat.le_of_ble_eq_true rfl)
      · have hi8 : i < 8 := lp_lt (by decide) hi c1
        refine lv_aload_n hx hb dX0_noteService_51 rfl (lv_at hl 0 rfl) ?_
        refine va_get (D := D) (ci := 0) (v := .ref (q 7)) (C := RX0) (T := TX0) (N := 7) hx hb hts iwX0_noteService_X0 hown hK hP 0 rfl rfl 6 (by decide) (hts (Cond.fieldLink RX0 34 "ShareDisk$Clients" "lead" "[[J") mwX0_noteService_4) (fun _ h9 => h9) rfl dX0_noteService_52 ?_
        refine lv_iload_n hx hb dX0_noteService_55 rfl (lv_at hl 1 rfl) ?_
        refine aG hx hb hK hP 7 3 (r := q (8 + id)) rfl rfl (ix8 hid) rfl dX0_noteService_56 ?_
        refine lv_iload hx hb dX0_noteService_57 (lv_at hl 4 rfl) ?_
        refine lv_dup2_11 hx hb dX0_noteService_59 rfl rfl ?_
        refine aJ hx hb hK hP (8 + id) 2 (ClW_row hid) rfl (ix8 hi8) dX0_noteService_60 ?_
        refine lv_lload_n hx hb dX0_noteService_61 rfl (lv_at hl 3 rfl) ?_
        refine lv_ladd hx hb dX0_noteService_62 ?_
        refine sJ hx hb hK hP hD hS (8 + id) 2 (ClW_row hid) rfl (ix8 hi8) dX0_noteService_63 (fun H locs hP hD hS => ?_)
        rw [ClW_set hid] at hP hD
        have hP : va_P D vwCl (ClW q k th co bu (vp_updL tg id ((tg id) + (((co id).toInt64) * z.toInt64))) (upd wa id ((wa id) - (nI 1))) (upd se id ((se id) + z)) (va_up L id (vp_updL (L id) i ((L id i) + (((co id).toInt64) * z.toInt64))))) H := hP
        have hD : va_D A (ClW q k th co bu (vp_updL tg id ((tg id) + (((co id).toInt64) * z.toInt64))) (upd wa id ((wa id) - (nI 1))) (upd se id ((se id) + z)) (va_up L id (vp_updL (L id) i ((L id i) + (((co id).toInt64) * z.toInt64))))) := hD
        refine lv_aload_n hx hb dX0_noteService_64 rfl (lv_at hl 0 rfl) ?_
        refine va_get (D := D) (ci := 0) (v := .ref (q 7)) (C := RX0) (T := TX0) (N := 7) hx hb hts iwX0_noteService_X0 hown hK hP 0 rfl rfl 6 (by decide) (hts (Cond.fieldLink RX0 34 "ShareDisk$Clients" "lead" "[[J") mwX0_noteService_4) (fun _ h9 => h9) rfl dX0_noteService_65 ?_
        refine lv_iload hx hb dX0_noteService_68 (lv_at hl 4 rfl) ?_
        refine aG hx hb hK hP 7 3 (r := q (8 + i)) rfl rfl (ix8 hi8) rfl dX0_noteService_70 ?_
        refine lv_iload_n hx hb dX0_noteService_71 rfl (lv_at hl 1 rfl) ?_
        refine lv_dup2_11 hx hb dX0_noteService_72 rfl rfl ?_
        refine aJ hx hb hK hP (8 + i) 2 (ClW_row hi8) rfl (ix8 hid) dX0_noteService_73 ?_
        refine lv_lload_n hx hb dX0_noteService_74 rfl (lv_at hl 3 rfl) ?_
        refine lv_lsub hx hb dX0_noteService_75 ?_
        refine sJ hx hb hK hP hD hS (8 + i) 2 (ClW_row hi8) rfl (ix8 hid) dX0_noteService_76 (fun H locs hP hD hS => ?_)
        rw [ClW_set hi8] at hP hD
        have hP : va_P D vwCl (ClW q k th co bu (vp_updL tg id ((tg id) + (((co id).toInt64) * z.toInt64))) (upd wa id ((wa id) - (nI 1))) (upd se id ((se id) + z)) (va_up (va_up L id (vp_updL (L id) i ((L id i) + (((co id).toInt64) * z.toInt64)))) i (vp_updL ((va_up L id (vp_updL (L id) i ((L id i) + (((co id).toInt64) * z.toInt64)))) i) id (((va_up L id (vp_updL (L id) i ((L id i) + (((co id).toInt64) * z.toInt64)))) i id) - (((co id).toInt64) * z.toInt64))))) H := hP
        have hD : va_D A (ClW q k th co bu (vp_updL tg id ((tg id) + (((co id).toInt64) * z.toInt64))) (upd wa id ((wa id) - (nI 1))) (upd se id ((se id) + z)) (va_up (va_up L id (vp_updL (L id) i ((L id i) + (((co id).toInt64) * z.toInt64)))) i (vp_updL ((va_up L id (vp_updL (L id) i ((L id i) + (((co id).toInt64) * z.toInt64)))) i) id (((va_up L id (vp_updL (L id) i ((L id i) + (((co id).toInt64) * z.toInt64)))) i id) - (((co id).toInt64) * z.toInt64))))) := hD
        refine lv_iinc (v := nI (i + 1)) (lv' := [(5, .int (nI (i + 1))), (0, .ref (q 0)), (1, .int (nI id)), (2, .int z), (3, .long (((co id).toInt64) * z.toInt64))]) hx hb dX0_noteService_77 hl (k := 4) rfl (by rw [show Int32.ofInt 1 = nI 1 by decide, nI_add]) (by decide) rfl (fun ls hl => ?_)
        refine lv_goto (tgt := 44) hx hb dX0_noteService_80 (by decide) ?_
        exact ih (i + 1) _ (by omega) (by rw [hL]; rfl) (by omega) _ _ _ hP hD hS (lv_sub hl [1, 2, 3, 4, 0] rfl)
  exact loop44 _ 0 ld (by omega) rfl (Nat.lt_succ_self _) _ _ _ hP hD hS (lv_sub hl [2, 3, 4, 1, 0] rfl)
theorem mwX0_leadOf_0 : Cond.fieldLink RX0 26 "ShareDisk$Clients" "waiting" "[I" ∈ wsX0_leadOf := by decide +kernel
theorem mwX0_leadOf_1 : Cond.fieldLink RX0 34 "ShareDisk$Clients" "lead" "[[J" ∈ wsX0_leadOf := by decide +kernel
theorem iwX0_leadOf_X0 : ∀ w ∈ wsX00, w ∈ wsX0_leadOf := by decide +kernel
set_option maxHeartbeats 4000000 in
set_option maxRecDepth 100000 in
theorem kX0_leadOf (l : Launch) (D : va_G) (k : Nat → ClassId) (q : Nat → Nat) (zz : Nat) (th co bu : Nat → Int32) (tg : Nat → Int64) (wa se : Nat → Int32) (ld : Nat → Nat → Int64) (a : Nat) (b : Nat) (ha : a < 8) (hb8 : b < 8) : ML l yX0_leadOf wsX0_leadOf ({ frames := 0, cells := 0, slots := 0, locals := 0 } : Room) D k (ClW q k th co bu tg wa se ld) zz [.ref (q 0), .int (nI a), .int (nI b)] (fun r9 w9 => r9 = (if wa a ≤ 0 then 0 else if wa b ≤ 0 then 0 else ld a b) ∧ w9 = ClW q k th co bu tg wa se ld) 0 0 := by
  refine bodyOf (Qc := fun A => QL D k (fun r9 w9 => r9 = (if wa a ≤ 0 then 0 else if wa b ≤ 0 then 0 else ld a b) ∧ w9 = ClW q k th co bu tg wa se ld) A) (cc := cX0_leadOf) (maxL := 3) (ret := (some .long)) (by decide) rfl (Nat.le_of_ble_eq_true rfl) ?_
  intro p e s m below meth c A ls hc hA hK hP hD hS hl
  obtain ⟨hx, hb, hml, hr, hts, hown, hlocks, hin⟩ := (show _ from hc)
  have hl : lv_has ls 3 [(0, .ref (q 0)), (1, .int (nI a)), (2, .int (nI b))] := hl
  refine lv_aload_n hx hb dX0_leadOf_0 rfl (lv_at hl 0 rfl) ?_
  refine va_get (D := D) (ci := 0) (v := .ref (q 5)) (C := RX0) (T := TX0) (N := 7) hx hb hts iwX0_leadOf_X0 hown hK hP 0 rfl rfl 4 (by decide) (hts (Cond.fieldLink RX0 26 "ShareDisk$Clients" "waiting" "[I") mwX0_leadOf_0) (fun _ h9 => h9) rfl dX0_leadOf_1 ?_
  refine lv_iload_n hx hb dX0_leadOf_4 rfl (lv_at hl 1 rfl) ?_
  refine aI hx hb hK hP 5 1 rfl rfl (ix8 ha) dX0_leadOf_5 ?_
  refine lv_if_le (tgt := 29) hx hb dX0_leadOf_6 (by decide) (fun c1 => ?_) (fun c1 => ?_)
  · refine lv_lconst (v := 0) hx hb dX0_leadOf_29 rfl ?_
    exact retL hc dX0_leadOf_30 hK hP hD hS (⟨by simp [c1], rfl⟩) (Nat.le_of_ble_eq_true rfl) (Nat.le_of_ble_eq_true rfl)
  · refine lv_aload_n hx hb dX0_leadOf_9 rfl (lv_at hl 0 rfl) ?_
    refine va_get (D := D) (ci := 0) (v := .ref (q 5)) (C := RX0) (T := TX0) (N := 7) hx hb hts iwX0_leadOf_X0 hown hK hP 0 rfl rfl 4 (by decide) (hts (Cond.fieldLink RX0 26 "ShareDisk$Clients" "waiting" "[I") mwX0_leadOf_0) (fun _ h9 => h9) rfl dX0_leadOf_10 ?_
    refine lv_iload_n hx hb dX0_leadOf_13 rfl (lv_at hl 2 rfl) ?_
    refine aI hx hb hK hP 5 1 rfl rfl (ix8 hb8) dX0_leadOf_14 ?_
    refine lv_if_le (tgt := 29) hx hb dX0_leadOf_15 (by decide) (fun c2 => ?_) (fun c2 => ?_)
    · refine lv_lconst (v := 0) hx hb dX0_leadOf_29 rfl ?_
      exact retL hc dX0_leadOf_30 hK hP hD hS (⟨by simp [c1, c2], rfl⟩) (Nat.le_of_ble_eq_true rfl) (Nat.le_of_ble_eq_true rfl)
    · refine lv_aload_n hx hb dX0_leadOf_18 rfl (lv_at hl 0 rfl) ?_
      refine va_get (D := D) (ci := 0) (v := .ref (q 7)) (C := RX0) (T := TX0) (N := 7) hx hb hts iwX0_leadOf_X0 hown hK hP 0 rfl rfl 6 (by decide) (hts (Cond.fieldLink RX0 34 "ShareDisk$Clients" "lead" "[[J") mwX0_leadOf_1) (fun _ h9 => h9) rfl dX0_leadOf_19 ?_
      refine lv_iload_n hx hb dX0_leadOf_22 rfl (lv_at hl 1 rfl) ?_
      refine aG hx hb hK hP 7 3 (r := q (8 + a)) rfl rfl (ix8 ha) rfl dX0_leadOf_23 ?_
      refine lv_iload_n hx hb dX0_leadOf_24 rfl (lv_at hl 2 rfl) ?_
      refine aJ hx hb hK hP (8 + a) 2 (ClW_row ha) rfl (ix8 hb8) dX0_leadOf_25 ?_
      refine lv_goto (tgt := 30) hx hb dX0_leadOf_26 (by decide) ?_
      exact retL hc dX0_leadOf_30 hK hP hD hS (⟨by simp [c1, c2], rfl⟩) (Nat.le_of_ble_eq_true rfl) (Nat.le_of_ble_eq_true rfl)
theorem mwX0_nextInTurn_0 : Cond.fieldLink RX0 26 "ShareDisk$Clients" "waiting" "[I" ∈ wsX0_nextInTurn := by decide +kernel
theorem mwX0_nextInTurn_1 : Cond.fieldLink RX0 22 "ShareDisk$Clients" "tag" "[J" ∈ wsX0_nextInTurn := by decide +kernel
theorem iwX0_nextInTurn_X0 : ∀ w ∈ wsX00, w ∈ wsX0_nextInTurn := by decide +kernel
set_option maxHeartbeats 4000000 in
set_option maxRecDepth 100000 in
theorem kX0_nextInTurn (l : Launch) (D : va_G) (k : Nat → ClassId) (q : Nat → Nat) (zz : Nat) (th co bu : Nat → Int32) (tg : Nat → Int64) (wa se : Nat → Int32) (ld : Nat → Nat → Int64) : MI l yX0_nextInTurn wsX0_nextInTurn ({ frames := 0, cells := 0, slots := 0, locals := 0 } : Room) D k (ClW q k th co bu tg wa se ld) zz [.ref (q 0)] (fun r9 w9 => r9 = (oI (nit wa tg 8)) ∧ w9 = ClW q k th co bu tg wa se ld) 0 0 := by
  refine bodyOf (Qc := fun A => QI D k (fun r9 w9 => r9 = (oI (nit wa tg 8)) ∧ w9 = ClW q k th co bu tg wa se ld) A) (cc := cX0_nextInTurn) (maxL := 3) (ret := (some .int)) (by decide) rfl (Nat.le_of_ble_eq_true rfl) ?_
  intro p e s m below meth c A ls hc hA hK hP hD hS hl
  obtain ⟨hx, hb, hml, hr, hts, hown, hlocks, hin⟩ := (show _ from hc)
  have hl : lv_has ls 3 [(0, .ref (q 0))] := hl
  refine lv_iconst (v := (-1)) hx hb dX0_nextInTurn_0 (by decide) ?_
  refine lv_istore_n (lv' := [(1, .int (-1)), (0, .ref (q 0))]) hx hb dX0_nextInTurn_1 rfl hl (by decide) rfl (fun ls hl => ?_)
  refine lv_iconst (v := nI 0) hx hb dX0_nextInTurn_2 (by decide) ?_
  refine lv_istore_n (lv' := [(2, .int (nI 0)), (1, .int (-1)), (0, .ref (q 0))]) hx hb dX0_nextInTurn_3 rfl hl (by decide) rfl (fun ls hl => ?_)
  have loop4 : ∀ (n : Nat) (i : Nat) (bt : Option Nat), (i ≤ 8) → (∀ j, bt = some j → j < 8) → (bt = nit wa tg i) → 8 - i < n → ∀ (H : Heap) (locs : List Loc) (ls : Array Slot), va_P D vwCl (ClW q k th co bu tg wa se ld) H → va_D A (ClW q k th co bu tg wa se ld) → va_S A s.heap H locs → lv_has ls 3 [(0, .ref (q 0)), (1, .int (oI bt)), (2, .int (nI i))] → W p l e ({ frames := 0, cells := 0, slots := 0, locals := 0 } : Room) s m [.ref (q 0)].toArray below meth c H locs 0 0 (MQ below (QI D k (fun r9 w9 => r9 = (oI (nit wa tg 8)) ∧ w9 = ClW q k th co bu tg wa se ld) A) [.ref (q 0)].toArray s 0 0 A) (F0 m 4 ls []) := by
    intro n
    induction n with
    | zero => intro i bt hi hj hbt hn9; exact absurd hn9 (Nat.not_lt_zero _)
    | succ n ih =>
      intro i bt hi hj hbt hn9 H locs ls hP hD hS hl
      refine lv_iload_n hx hb dX0_nextInTurn_4 rfl (lv_at hl 2 rfl) ?_
      refine lv_bipush (v := nI 8) hx hb dX0_nextInTurn_5 (by decide) ?_
      refine lv_icmp_ge (tgt := 48) hx hb dX0_nextInTurn_7 (by decide) (fun c1 => ?_) (fun c1 => ?_)
      · have hi8 : i = 8 := lp_ge (by decide) hi c1
        refine lv_iload_n hx hb dX0_nextInTurn_48 rfl (lv_at hl 1 rfl) ?_
        exact retI hc dX0_nextInTurn_49 hK hP hD hS (⟨by rw [hbt, hi8], rfl⟩) (Nat.le_of_ble_eq_true rfl) (Nat.le_of_ble_eq_true rfl)
      · have hi8 : i < 8 := lp_lt (by decide) hi c1
        refine lv_aload_n hx hb dX0_nextInTurn_10 rfl (lv_at hl 0 rfl) ?_
        refine va_get (D := D) (ci := 0) (v := .ref (q 5)) (C := RX0) (T := TX0) (N := 7) hx hb hts iwX0_nextInTurn_X0 hown hK hP 0 rfl rfl 4 (by decide) (hts (Cond.fieldLink RX0 26 "ShareDisk$Clients" "waiting" "[I") mwX0_nextInTurn_0) (fun _ h9 => h9) rfl dX0_nextInTurn_11 ?_
        refine lv_iload_n hx hb dX0_nextInTurn_14 rfl (lv_at hl 2 rfl) ?_
        refine aI hx hb hK hP 5 1 rfl rfl (ix8 hi8) dX0_nextInTurn_15 ?_
        refine lv_if_le (tgt := 42) hx hb dX0_nextInTurn_16 (by decide) (fun c2 => ?_) (fun c2 => ?_)
        · refine lv_iinc (v := nI (i + 1)) (lv' := [(2, .int (nI (i + 1))), (0, .ref (q 0)), (1, .int (oI bt))]) hx hb dX0_nextInTurn_42 hl (k := 2) rfl (by rw [show Int32.ofInt 1 = nI 1 by decide, nI_add]) (by decide) rfl (fun ls hl => ?_)
          refine lv_goto (tgt := 4) hx hb dX0_nextInTurn_45 (by decide) ?_
          exact ih (i + 1) bt (by omega) hj (by rw [hbt]; simp [nit, c2]) (by omega) _ _ _ hP hD hS (lv_sub hl [1, 2, 0] rfl)
        · rcases bt with _ | j
          · have hl : lv_has ls 3 [(0, .ref (q 0)), (1, .int (-1)), (2, .int (nI i))] := hl
            refine lv_iload_n hx hb dX0_nextInTurn_19 rfl (lv_at hl 1 rfl) ?_
            refine lv_iconst (v := (-1)) hx hb dX0_nextInTurn_20 (by decide) ?_
            refine lv_icmp_eq (tgt := 40) hx hb dX0_nextInTurn_21 (by decide) (fun c3 => ?_) (fun c3 => False.elim (c3 rfl))
            refine lv_iload_n hx hb dX0_nextInTurn_40 rfl (lv_at hl 2 rfl) ?_
            refine lv_istore_n (lv' := [(1, .int (nI i)), (0, .ref (q 0)), (2, .int (nI i))]) hx hb dX0_nextInTurn_41 rfl hl (by decide) rfl (fun ls hl => ?_)
            refine lv_iinc (v := nI (i + 1)) (lv' := [(2, .int (nI (i + 1))), (1, .int (nI i)), (0, .ref (q 0))]) hx hb dX0_nextInTurn_42 hl (k := 2) rfl (by rw [show Int32.ofInt 1 = nI 1 by decide, nI_add]) (by decide) rfl (fun ls hl => ?_)
            refine lv_goto (tgt := 4) hx hb dX0_nextInTurn_45 (by decide) ?_
            exact ih (i + 1) (some i) (by omega) (fun j h => by cases h; exact hi8) (by simp [nit, ← hbt, c2]) (by omega) _ _ _ hP hD hS (lv_sub hl [2, 1, 0] rfl)
          · have hl : lv_has ls 3 [(0, .ref (q 0)), (1, .int (nI j)), (2, .int (nI i))] := hl
            refine lv_iload_n hx hb dX0_nextInTurn_19 rfl (lv_at hl 1 rfl) ?_
            refine lv_iconst (v := (-1)) hx hb dX0_nextInTurn_20 (by decide) ?_
            refine lv_icmp_eq (tgt := 40) hx hb dX0_nextInTurn_21 (by decide) (fun c4 => False.elim (nI_nm1 _ (hj j rfl) c4)) (fun c4 => ?_)
            refine lv_aload_n hx hb dX0_nextInTurn_24 rfl (lv_at hl 0 rfl) ?_
            refine va_get (D := D) (ci := 0) (v := .ref (q 4)) (C := RX0) (T := TX0) (N := 7) hx hb hts iwX0_nextInTurn_X0 hown hK hP 0 rfl rfl 3 (by decide) (hts (Cond.fieldLink RX0 22 "ShareDisk$Clients" "tag" "[J") mwX0_nextInTurn_1) (fun _ h9 => h9) rfl dX0_nextInTurn_25 ?_
            refine lv_iload_n hx hb dX0_nextInTurn_28 rfl (lv_at hl 2 rfl) ?_
            refine aJ hx hb hK hP 4 2 rfl rfl (ix8 hi8) dX0_nextInTurn_29 ?_
            refine lv_aload_n hx hb dX0_nextInTurn_30 rfl (lv_at hl 0 rfl) ?_
            refine va_get (D := D) (ci := 0) (v := .ref (q 4)) (C := RX0) (T := TX0) (N := 7) hx hb hts iwX0_nextInTurn_X0 hown hK hP 0 rfl rfl 3 (by decide) (hts (Cond.fieldLink RX0 22 "ShareDisk$Clients" "tag" "[J") mwX0_nextInTurn_1) (fun _ h9 => h9) rfl dX0_nextInTurn_31 ?_
            refine lv_iload_n hx hb dX0_nextInTurn_34 rfl (lv_at hl 1 rfl) ?_
            refine aJ hx hb hK hP 4 2 rfl rfl (ix8 (hj j rfl)) dX0_nextInTurn_35 ?_
            refine W.lcmp hx hb dX0_nextInTurn_36 ?_
            refine lv_if_ge (tgt := 42) hx hb dX0_nextInTurn_37 (by decide) (fun c5 => ?_) (fun c5 => ?_)
            · rw [lg_cmp_ge] at c5
              refine lv_iinc (v := nI (i + 1)) (lv' := [(2, .int (nI (i + 1))), (0, .ref (q 0)), (1, .int (nI j))]) hx hb dX0_nextInTurn_42 hl (k := 2) rfl (by rw [show Int32.ofInt 1 = nI 1 by decide, nI_add]) (by decide) rfl (fun ls hl => ?_)
              refine lv_goto (tgt := 4) hx hb dX0_nextInTurn_45 (by decide) ?_
              exact ih (i + 1) (some j) (by omega) hj (by simp [nit, ← hbt, c2, c5]) (by omega) _ _ _ hP hD hS (lv_sub hl [1, 2, 0] rfl)
            · rw [lg_cmp_ge] at c5
              refine lv_iload_n hx hb dX0_nextInTurn_40 rfl (lv_at hl 2 rfl) ?_
              refine lv_istore_n (lv' := [(1, .int (nI i)), (0, .ref (q 0)), (2, .int (nI i))]) hx hb dX0_nextInTurn_41 rfl hl (by decide) rfl (fun ls hl => ?_)
              refine lv_iinc (v := nI (i + 1)) (lv' := [(2, .int (nI (i + 1))), (1, .int (nI i)), (0, .ref (q 0))]) hx hb dX0_nextInTurn_42 hl (k := 2) rfl (by rw [show Int32.ofInt 1 = nI 1 by decide, nI_add]) (by decide) rfl (fun ls hl => ?_)
              refine lv_goto (tgt := 4) hx hb dX0_nextInTurn_45 (by decide) ?_
              exact ih (i + 1) (some i) (by omega) (fun j h => by cases h; exact hi8) (by simp [nit, ← hbt, c2, c5]) (by omega) _ _ _ hP hD hS (lv_sub hl [2, 1, 0] rfl)
  exact loop4 _ 0 none (by omega) (fun j h => by cases h) rfl (Nat.lt_succ_self _) s.heap _ _ hP hD hS (lv_sub hl [2, 1, 0] rfl)
theorem mwX0_greatestTag_0 : Cond.fieldLink RX0 9 "ShareDisk$Clients" "there" "[Z" ∈ wsX0_greatestTag := by decide +kernel
theorem mwX0_greatestTag_1 : Cond.fieldLink RX0 22 "ShareDisk$Clients" "tag" "[J" ∈ wsX0_greatestTag := by decide +kernel
theorem mwX0_greatestTag_2 : Cond.methodLink RX0 37 Lib.MathLoose.max_long.x ∈ wsX0_greatestTag := by decide +kernel
theorem mwX0_greatestTag_3 : Cond.static Lib.MathLoose.max_long.x ∈ wsX0_greatestTag := by decide +kernel
theorem mwX0_greatestTag_4 : Cond.initialized "java/lang/Math" ∈ wsX0_greatestTag := by decide +kernel
theorem mwX0_greatestTag_5 : Cond.code Lib.MathLoose.max_long.x Lib.MathLoose.max_long.code 4 (some .long) ∈ wsX0_greatestTag := by decide +kernel
theorem iwX0_greatestTag_X0 : ∀ w ∈ wsX00, w ∈ wsX0_greatestTag := by decide +kernel
set_option maxHeartbeats 4000000 in
set_option maxRecDepth 100000 in
theorem kX0_greatestTag (l : Launch) (D : va_G) (k : Nat → ClassId) (q : Nat → Nat) (zz : Nat) (th co bu : Nat → Int32) (tg : Nat → Int64) (wa se : Nat → Int32) (ld : Nat → Nat → Int64) (x : Int64) : ML l yX0_greatestTag wsX0_greatestTag ({ frames := 1, cells := 0, slots := 0, locals := 23 } : Room) D k (ClW q k th co bu tg wa se ld) zz [.ref (q 0), .long x] (fun r9 w9 => r9 = (gtF th tg x 8) ∧ w9 = ClW q k th co bu tg wa se ld) 0 0 := by
  refine bodyOf (Qc := fun A => QL D k (fun r9 w9 => r9 = (gtF th tg x 8) ∧ w9 = ClW q k th co bu tg wa se ld) A) (cc := cX0_greatestTag) (maxL := 6) (ret := (some .long)) (by decide) rfl (Nat.le_of_ble_eq_true rfl) ?_
  intro p e s m below meth c A ls hc hA hK hP hD hS hl
  obtain ⟨hx, hb, hml, hr, hts, hown, hlocks, hin⟩ := (show _ from hc)
  have hl : lv_has ls 6 [(0, .ref (q 0)), (1, .long x)] := hl
  refine lv_lload_n hx hb dX0_greatestTag_0 rfl (lv_at hl 1 rfl) ?_
  refine lv_lstore_n (lv' := [(3, .long x), (0, .ref (q 0)), (1, .long x)]) hx hb dX0_greatestTag_1 rfl hl (by decide) rfl (fun ls hl => ?_)
  refine lv_iconst (v := nI 0) hx hb dX0_greatestTag_2 (by decide) ?_
  refine lv_istore (lv' := [(5, .int (nI 0)), (3, .long x), (0, .ref (q 0)), (1, .long x)]) hx hb dX0_greatestTag_3 hl (by decide) rfl (fun ls hl => ?_)
  have loop5 : ∀ (n : Nat) (i : Nat) (g : Int64), (i ≤ 8) → (g = gtF th tg x i) → 8 - i < n → ∀ (H : Heap) (locs : List Loc) (ls : Array Slot), va_P D vwCl (ClW q k th co bu tg wa se ld) H → va_D A (ClW q k th co bu tg wa se ld) → va_S A s.heap H locs → lv_has ls 6 [(0, .ref (q 0)), (1, .long x), (3, .long g), (5, .int (nI i))] → W p l e ({ frames := 1, cells := 0, slots := 0, locals := 23 } : Room) s m [.ref (q 0), .long x].toArray below meth c H locs 0 0 (MQ below (QL D k (fun r9 w9 => r9 = (gtF th tg x 8) ∧ w9 = ClW q k th co bu tg wa se ld) A) [.ref (q 0), .long x].toArray s 0 0 A) (F0 m 5 ls []) := by
    intro n
    induction n with
    | zero => intro i g hi hg hn9; exact absurd hn9 (Nat.not_lt_zero _)
    | succ n ih =>
      intro i g hi hg hn9 H locs ls hP hD hS hl
      refine lv_iload hx hb dX0_greatestTag_5 (lv_at hl 3 rfl) ?_
      refine lv_bipush (v := nI 8) hx hb dX0_greatestTag_7 (by decide) ?_
      refine lv_icmp_ge (tgt := 40) hx hb dX0_greatestTag_9 (by decide) (fun c1 => ?_) (fun c1 => ?_)
      · have hi8 : i = 8 := lp_ge (by decide) hi c1
        refine lv_lload_n hx hb dX0_greatestTag_40 rfl (lv_at hl 2 rfl) ?_
        exact retL hc dX0_greatestTag_41 hK hP hD hS (⟨by rw [hg, hi8], rfl⟩) (Nat.le_of_ble_eq_true rfl) (Nat.le_of_ble_eq_true rfl)
      · have hi8 : i < 8 := lp_lt (by decide) hi c1
        refine lv_aload_n hx hb dX0_greatestTag_12 rfl (lv_at hl 0 rfl) ?_
        refine va_get (D := D) (ci := 0) (v := .ref (q 1)) (C := RX0) (T := TX0) (N := 7) hx hb hts iwX0_greatestTag_X0 hown hK hP 0 rfl rfl 0 (by decide) (hts (Cond.fieldLink RX0 9 "ShareDisk$Clients" "there" "[Z") mwX0_greatestTag_0) (fun _ h9 => h9) rfl dX0_greatestTag_13 ?_
        refine lv_iload hx hb dX0_greatestTag_16 (lv_at hl 3 rfl) ?_
        refine aZ hx hb hK hP 1 0 rfl rfl (ix8 hi8) dX0_greatestTag_18 ?_
        refine lv_if_eq (tgt := 34) hx hb dX0_greatestTag_19 (by decide) (fun c2 => ?_) (fun c2 => ?_)
        · refine lv_iinc (v := nI (i + 1)) (lv' := [(5, .int (nI (i + 1))), (0, .ref (q 0)), (1, .long x), (3, .long g)]) hx hb dX0_greatestTag_34 hl (k := 3) rfl (by rw [show Int32.ofInt 1 = nI 1 by decide, nI_add]) (by decide) rfl (fun ls hl => ?_)
          refine lv_goto (tgt := 5) hx hb dX0_greatestTag_37 (by decide) ?_
          exact ih (i + 1) (g) (by omega) (by simp [gtF, hg, c2]) (by omega) _ _ _ hP hD hS (lv_sub hl [1, 2, 3, 0] rfl)
        · refine lv_lload_n hx hb dX0_greatestTag_22 rfl (lv_at hl 2 rfl) ?_
          refine lv_aload_n hx hb dX0_greatestTag_23 rfl (lv_at hl 0 rfl) ?_
          refine va_get (D := D) (ci := 0) (v := .ref (q 4)) (C := RX0) (T := TX0) (N := 7) hx hb hts iwX0_greatestTag_X0 hown hK hP 0 rfl rfl 3 (by decide) (hts (Cond.fieldLink RX0 22 "ShareDisk$Clients" "tag" "[J") mwX0_greatestTag_1) (fun _ h9 => h9) rfl dX0_greatestTag_24 ?_
          refine lv_iload hx hb dX0_greatestTag_27 (lv_at hl 3 rfl) ?_
          refine aJ hx hb hK hP 4 2 rfl rfl (ix8 hi8) dX0_greatestTag_29 ?_
          refine va_mmax_long hx hb (hml.trans hl.1.symm) hown (hts (Cond.methodLink RX0 37 Lib.MathLoose.max_long.x) mwX0_greatestTag_2) (hts (Cond.static Lib.MathLoose.max_long.x) mwX0_greatestTag_3) (hts (Cond.initialized "java/lang/Math") mwX0_greatestTag_4) (hts (Cond.code Lib.MathLoose.max_long.x Lib.MathLoose.max_long.code 4 (some .long)) mwX0_greatestTag_5) (Nat.le_of_ble_eq_true rfl) (Nat.le_of_ble_eq_true rfl) (Nat.le_of_ble_eq_true rfl) (Nat.le_of_ble_eq_true rfl) dX0_greatestTag_30 ?_
          refine lv_lstore_n (lv' := [(3, .long (mxL g (tg i))), (0, .ref (q 0)), (1, .long x), (5, .int (nI i))]) hx hb dX0_greatestTag_33 rfl hl (by decide) rfl (fun ls hl => ?_)
          refine lv_iinc (v := nI (i + 1)) (lv' := [(5, .int (nI (i + 1))), (3, .long (mxL g (tg i))), (0, .ref (q 0)), (1, .long x)]) hx hb dX0_greatestTag_34 hl (k := 3) rfl (by rw [show Int32.ofInt 1 = nI 1 by decide, nI_add]) (by decide) rfl (fun ls hl => ?_)
          refine lv_goto (tgt := 5) hx hb dX0_greatestTag_37 (by decide) ?_
          exact ih (i + 1) (mxL g (tg i)) (by omega) (by simp [gtF, hg, c2]) (by omega) _ _ _ hP hD hS (lv_sub hl [2, 3, 1, 0] rfl)
  exact loop5 _ 0 x (by omega) rfl (Nat.lt_succ_self _) s.heap _ _ hP hD hS (lv_sub hl [2, 3, 1, 0] rfl)
end
section
theorem mwX1_isFull_0 : Cond.fieldLink RX1 41 "ShareDisk$Requests" "tickets" "I" ∈ wsX1_isFull := by decide +kernel
theorem iwX1_isFull_X1 : ∀ w ∈ wsX10, w ∈ wsX1_isFull := by decide +kernel
set_option maxHeartbeats 4000000 in
set_option maxRecDepth 100000 in
theorem kX1_isFull (l : Launch) (D : va_G) (k : Nat → ClassId) (q : Nat → Nat) (zz : Nat) (ow wr fi sz : Nat → Int32) (dl : Nat → Int64) (wt bl sh so : Nat → Int32) (tn sn un : Nat) (htn : tn ≤ 500) : MI l yX1_isFull wsX1_isFull ({ frames := 0, cells := 0, slots := 0, locals := 0 } : Room) D k (RqW q k ow wr fi sz dl wt bl sh so tn sn un) zz [.ref (q 0)] (fun r9 w9 => r9 = (bI (500 ≤ tn)) ∧ w9 = RqW q k ow wr fi sz dl wt bl sh so tn sn un) 0 0 := by
  refine bodyOf (Qc := fun A => QI D k (fun r9 w9 => r9 = (bI (500 ≤ tn)) ∧ w9 = RqW q k ow wr fi sz dl wt bl sh so tn sn un) A) (cc := cX1_isFull) (maxL := 1) (ret := (some .boolean)) (by decide) rfl (Nat.le_of_ble_eq_true rfl) ?_
  intro p e s m below meth c A ls hc hA hK hP hD hS hl
  obtain ⟨hx, hb, hml, hr, hts, hown, hlocks, hin⟩ := (show _ from hc)
  have hl : lv_has ls 1 [(0, .ref (q 0))] := hl
  refine lv_aload_n hx hb dX1_isFull_0 rfl (lv_at hl 0 rfl) ?_
  refine va_get (D := D) (ci := 1) (v := .int (nI tn)) (C := RX1) (T := TX1) (N := 12) hx hb hts iwX1_isFull_X1 hown hK hP 0 rfl rfl 9 (by decide) (hts (Cond.fieldLink RX1 41 "ShareDisk$Requests" "tickets" "I") mwX1_isFull_0) (fun _ h9 => h9) rfl dX1_isFull_1 ?_
  refine lv_sipush (v := nI 500) hx hb dX1_isFull_4 (by decide) ?_
  refine lv_icmp_lt (tgt := 14) hx hb dX1_isFull_7 (by decide) (fun c1 => ?_) (fun c1 => ?_)
  · refine lv_iconst (v := nI 0) hx hb dX1_isFull_14 (by decide) ?_
    exact retZ hc dX1_isFull_15 hK hP hD hS (Or.inl rfl) (⟨bI_f (by have h9 := (nI_ltI (by omega) (by decide)).mp c1; omega), rfl⟩) (Nat.le_of_ble_eq_true rfl) (Nat.le_of_ble_eq_true rfl)
  · refine lv_iconst (v := nI 1) hx hb dX1_isFull_10 (by decide) ?_
    refine lv_goto (tgt := 15) hx hb dX1_isFull_11 (by decide) ?_
    exact retZ hc dX1_isFull_15 hK hP hD hS (Or.inr rfl) (⟨bI_t (by have h9 := mt (nI_ltI (by omega) (by decide)).mpr c1; omega), rfl⟩) (Nat.le_of_ble_eq_true rfl) (Nat.le_of_ble_eq_true rfl)
theorem mwX1_isTicket_0 : Cond.fieldLink RX1 41 "ShareDisk$Requests" "tickets" "I" ∈ wsX1_isTicket := by decide +kernel
theorem iwX1_isTicket_X1 : ∀ w ∈ wsX10, w ∈ wsX1_isTicket := by decide +kernel
set_option maxHeartbeats 4000000 in
set_option maxRecDepth 100000 in
theorem kX1_isTicket (l : Launch) (D : va_G) (k : Nat → ClassId) (q : Nat → Nat) (zz : Nat) (ow wr fi sz : Nat → Int32) (dl : Nat → Int64) (wt bl sh so : Nat → Int32) (tn sn un : Nat) (x : Int32) : MI l yX1_isTicket wsX1_isTicket ({ frames := 0, cells := 0, slots := 0, locals := 0 } : Room) D k (RqW q k ow wr fi sz dl wt bl sh so tn sn un) zz [.ref (q 0), .int x] (fun r9 w9 => r9 = (bI (¬ x < 0 ∧ ¬ nI tn ≤ x)) ∧ w9 = RqW q k ow wr fi sz dl wt bl sh so tn sn un) 0 0 := by
  refine bodyOf (Qc := fun A => QI D k (fun r9 w9 => r9 = (bI (¬ x < 0 ∧ ¬ nI tn ≤ x)) ∧ w9 = RqW q k ow wr fi sz dl wt bl sh so tn sn un) A) (cc := cX1_isTicket) (maxL := 2) (ret := (some .boolean)) (by decide) rfl (Nat.le_of_ble_eq_true rfl) ?_
  intro p e s m below meth c A ls hc hA hK hP hD hS hl
  obtain ⟨hx, hb, hml, hr, hts, hown, hlocks, hin⟩ := (show _ from hc)
  have hl : lv_has ls 2 [(0, .ref (q 0)), (1, .int x)] := hl
  refine lv_iload_n hx hb dX1_isTicket_0 rfl (lv_at hl 1 rfl) ?_
  refine lv_if_lt (tgt := 16) hx hb dX1_isTicket_1 (by decide) (fun c1 => ?_) (fun c1 => ?_)
  · refine lv_iconst (v := nI 0) hx hb dX1_isTicket_16 (by decide) ?_
    exact retZ hc dX1_isTicket_17 hK hP hD hS (Or.inl rfl) (⟨bI_f (by simp [c1]), rfl⟩) (Nat.le_of_ble_eq_true rfl) (Nat.le_of_ble_eq_true rfl)
  · refine lv_iload_n hx hb dX1_isTicket_4 rfl (lv_at hl 1 rfl) ?_
    refine lv_aload_n hx hb dX1_isTicket_5 rfl (lv_at hl 0 rfl) ?_
    refine va_get (D := D) (ci := 1) (v := .int (nI tn)) (C := RX1) (T := TX1) (N := 12) hx hb hts iwX1_isTicket_X1 hown hK hP 0 rfl rfl 9 (by decide) (hts (Cond.fieldLink RX1 41 "ShareDisk$Requests" "tickets" "I") mwX1_isTicket_0) (fun _ h9 => h9) rfl dX1_isTicket_6 ?_
    refine lv_icmp_ge (tgt := 16) hx hb dX1_isTicket_9 (by decide) (fun c2 => ?_) (fun c2 => ?_)
    · refine lv_iconst (v := nI 0) hx hb dX1_isTicket_16 (by decide) ?_
      exact retZ hc dX1_isTicket_17 hK hP hD hS (Or.inl rfl) (⟨bI_f (by simp [c2]), rfl⟩) (Nat.le_of_ble_eq_true rfl) (Nat.le_of_ble_eq_true rfl)
    · refine lv_iconst (v := nI 1) hx hb dX1_isTicket_12 (by decide) ?_
      refine lv_goto (tgt := 17) hx hb dX1_isTicket_13 (by decide) ?_
      exact retZ hc dX1_isTicket_17 hK hP hD hS (Or.inr rfl) (⟨bI_t ⟨c1, c2⟩, rfl⟩) (Nat.le_of_ble_eq_true rfl) (Nat.le_of_ble_eq_true rfl)
theorem mwX1_ownerOf_0 : Cond.fieldLink RX1 9 "ShareDisk$Requests" "owner" "[I" ∈ wsX1_ownerOf := by decide +kernel
theorem iwX1_ownerOf_X1 : ∀ w ∈ wsX10, w ∈ wsX1_ownerOf := by decide +kernel
set_option maxHeartbeats 4000000 in
set_option maxRecDepth 100000 in
theorem kX1_ownerOf (l : Launch) (D : va_G) (k : Nat → ClassId) (q : Nat → Nat) (zz : Nat) (ow wr fi sz : Nat → Int32) (dl : Nat → Int64) (wt bl sh so : Nat → Int32) (tn sn un : Nat) (t : Nat) (ht : t < 500) : MI l yX1_ownerOf wsX1_ownerOf ({ frames := 0, cells := 0, slots := 0, locals := 0 } : Room) D k (RqW q k ow wr fi sz dl wt bl sh so tn sn un) zz [.ref (q 0), .int (nI t)] (fun r9 w9 => r9 = (ow t) ∧ w9 = RqW q k ow wr fi sz dl wt bl sh so tn sn un) 0 0 := by
  refine bodyOf (Qc := fun A => QI D k (fun r9 w9 => r9 = (ow t) ∧ w9 = RqW q k ow wr fi sz dl wt bl sh so tn sn un) A) (cc := cX1_ownerOf) (maxL := 2) (ret := (some .int)) (by decide) rfl (Nat.le_of_ble_eq_true rfl) ?_
  intro p e s m below meth c A ls hc hA hK hP hD hS hl
  obtain ⟨hx, hb, hml, hr, hts, hown, hlocks, hin⟩ := (show _ from hc)
  have hl : lv_has ls 2 [(0, .ref (q 0)), (1, .int (nI t))] := hl
  refine lv_aload_n hx hb dX1_ownerOf_0 rfl (lv_at hl 0 rfl) ?_
  refine va_get (D := D) (ci := 1) (v := .ref (q 1)) (C := RX1) (T := TX1) (N := 12) hx hb hts iwX1_ownerOf_X1 hown hK hP 0 rfl rfl 0 (by decide) (hts (Cond.fieldLink RX1 9 "ShareDisk$Requests" "owner" "[I") mwX1_ownerOf_0) (fun _ h9 => h9) rfl dX1_ownerOf_1 ?_
  refine lv_iload_n hx hb dX1_ownerOf_4 rfl (lv_at hl 1 rfl) ?_
  refine aI hx hb hK hP 1 1 rfl rfl (ix5 ht) dX1_ownerOf_5 ?_
  exact retI hc dX1_ownerOf_6 hK hP hD hS (⟨rfl, rfl⟩) (Nat.le_of_ble_eq_true rfl) (Nat.le_of_ble_eq_true rfl)
theorem mwX1_firstOf_0 : Cond.fieldLink RX1 19 "ShareDisk$Requests" "first" "[I" ∈ wsX1_firstOf := by decide +kernel
theorem iwX1_firstOf_X1 : ∀ w ∈ wsX10, w ∈ wsX1_firstOf := by decide +kernel
set_option maxHeartbeats 4000000 in
set_option maxRecDepth 100000 in
theorem kX1_firstOf (l : Launch) (D : va_G) (k : Nat → ClassId) (q : Nat → Nat) (zz : Nat) (ow wr fi sz : Nat → Int32) (dl : Nat → Int64) (wt bl sh so : Nat → Int32) (tn sn un : Nat) (t : Nat) (ht : t < 500) : MI l yX1_firstOf wsX1_firstOf ({ frames := 0, cells := 0, slots := 0, locals := 0 } : Room) D k (RqW q k ow wr fi sz dl wt bl sh so tn sn un) zz [.ref (q 0), .int (nI t)] (fun r9 w9 => r9 = (fi t) ∧ w9 = RqW q k ow wr fi sz dl wt bl sh so tn sn un) 0 0 := by
  refine bodyOf (Qc := fun A => QI D k (fun r9 w9 => r9 = (fi t) ∧ w9 = RqW q k ow wr fi sz dl wt bl sh so tn sn un) A) (cc := cX1_firstOf) (maxL := 2) (ret := (some .int)) (by decide) rfl (Nat.le_of_ble_eq_true rfl) ?_
  intro p e s m below meth c A ls hc hA hK hP hD hS hl
  obtain ⟨hx, hb, hml, hr, hts, hown, hlocks, hin⟩ := (show _ from hc)
  have hl : lv_has ls 2 [(0, .ref (q 0)), (1, .int (nI t))] := hl
  refine lv_aload_n hx hb dX1_firstOf_0 rfl (lv_at hl 0 rfl) ?_
  refine va_get (D := D) (ci := 1) (v := .ref (q 3)) (C := RX1) (T := TX1) (N := 12) hx hb hts iwX1_firstOf_X1 hown hK hP 0 rfl rfl 2 (by decide) (hts (Cond.fieldLink RX1 19 "ShareDisk$Requests" "first" "[I") mwX1_firstOf_0) (fun _ h9 => h9) rfl dX1_firstOf_1 ?_
  refine lv_iload_n hx hb dX1_firstOf_4 rfl (lv_at hl 1 rfl) ?_
  refine aI hx hb hK hP 3 1 rfl rfl (ix5 ht) dX1_firstOf_5 ?_
  exact retI hc dX1_firstOf_6 hK hP hD hS (⟨rfl, rfl⟩) (Nat.le_of_ble_eq_true rfl) (Nat.le_of_ble_eq_true rfl)
theorem mwX1_sizeOf_0 : Cond.fieldLink RX1 22 "ShareDisk$Requests" "size" "[I" ∈ wsX1_sizeOf := by decide +kernel
theorem iwX1_sizeOf_X1 : ∀ w ∈ wsX10, w ∈ wsX1_sizeOf := by decide +kernel
set_option maxHeartbeats 4000000 in
set_option maxRecDepth 100000 in
theorem kX1_sizeOf (l : Launch) (D : va_G) (k : Nat → ClassId) (q : Nat → Nat) (zz : Nat) (ow wr fi sz : Nat → Int32) (dl : Nat → Int64) (wt bl sh so : Nat → Int32) (tn sn un : Nat) (t : Nat) (ht : t < 500) : MI l yX1_sizeOf wsX1_sizeOf ({ frames := 0, cells := 0, slots := 0, locals := 0 } : Room) D k (RqW q k ow wr fi sz dl wt bl sh so tn sn un) zz [.ref (q 0), .int (nI t)] (fun r9 w9 => r9 = (sz t) ∧ w9 = RqW q k ow wr fi sz dl wt bl sh so tn sn un) 0 0 := by
  refine bodyOf (Qc := fun A => QI D k (fun r9 w9 => r9 = (sz t) ∧ w9 = RqW q k ow wr fi sz dl wt bl sh so tn sn un) A) (cc := cX1_sizeOf) (maxL := 2) (ret := (some .int)) (by decide) rfl (Nat.le_of_ble_eq_true rfl) ?_
  intro p e s m below meth c A ls hc hA hK hP hD hS hl
  obtain ⟨hx, hb, hml, hr, hts, hown, hlocks, hin⟩ := (show _ from hc)
  have hl : lv_has ls 2 [(0, .ref (q 0)), (1, .int (nI t))] := hl
  refine lv_aload_n hx hb dX1_sizeOf_0 rfl (lv_at hl 0 rfl) ?_
  refine va_get (D := D) (ci := 1) (v := .ref (q 4)) (C := RX1) (T := TX1) (N := 12) hx hb hts iwX1_sizeOf_X1 hown hK hP 0 rfl rfl 3 (by decide) (hts (Cond.fieldLink RX1 22 "ShareDisk$Requests" "size" "[I") mwX1_sizeOf_0) (fun _ h9 => h9) rfl dX1_sizeOf_1 ?_
  refine lv_iload_n hx hb dX1_sizeOf_4 rfl (lv_at hl 1 rfl) ?_
  refine aI hx hb hK hP 4 1 rfl rfl (ix5 ht) dX1_sizeOf_5 ?_
  exact retI hc dX1_sizeOf_6 hK hP hD hS (⟨rfl, rfl⟩) (Nat.le_of_ble_eq_true rfl) (Nat.le_of_ble_eq_true rfl)
theorem mwX1_waiting_0 : Cond.fieldLink RX1 41 "ShareDisk$Requests" "tickets" "I" ∈ wsX1_waiting := by decide +kernel
theorem mwX1_waiting_1 : Cond.fieldLink RX1 45 "ShareDisk$Requests" "served" "I" ∈ wsX1_waiting := by decide +kernel
theorem iwX1_waiting_X1 : ∀ w ∈ wsX10, w ∈ wsX1_waiting := by decide +kernel
set_option maxHeartbeats 4000000 in
set_option maxRecDepth 100000 in
theorem kX1_waiting (l : Launch) (D : va_G) (k : Nat → ClassId) (q : Nat → Nat) (zz : Nat) (ow wr fi sz : Nat → Int32) (dl : Nat → Int64) (wt bl sh so : Nat → Int32) (tn sn un : Nat) (hsn : sn ≤ tn) : MI l yX1_waiting wsX1_waiting ({ frames := 0, cells := 0, slots := 0, locals := 0 } : Room) D k (RqW q k ow wr fi sz dl wt bl sh so tn sn un) zz [.ref (q 0)] (fun r9 w9 => r9 = (nI (tn - sn)) ∧ w9 = RqW q k ow wr fi sz dl wt bl sh so tn sn un) 0 0 := by
  refine bodyOf (Qc := fun A => QI D k (fun r9 w9 => r9 = (nI (tn - sn)) ∧ w9 = RqW q k ow wr fi sz dl wt bl sh so tn sn un) A) (cc := cX1_waiting) (maxL := 1) (ret := (some .int)) (by decide) rfl (Nat.le_of_ble_eq_true rfl) ?_
  intro p e s m below meth c A ls hc hA hK hP hD hS hl
  obtain ⟨hx, hb, hml, hr, hts, hown, hlocks, hin⟩ := (show _ from hc)
  have hl : lv_has ls 1 [(0, .ref (q 0))] := hl
  refine lv_aload_n hx hb dX1_waiting_0 rfl (lv_at hl 0 rfl) ?_
  refine va_get (D := D) (ci := 1) (v := .int (nI tn)) (C := RX1) (T := TX1) (N := 12) hx hb hts iwX1_waiting_X1 hown hK hP 0 rfl rfl 9 (by decide) (hts (Cond.fieldLink RX1 41 "ShareDisk$Requests" "tickets" "I") mwX1_waiting_0) (fun _ h9 => h9) rfl dX1_waiting_1 ?_
  refine lv_aload_n hx hb dX1_waiting_4 rfl (lv_at hl 0 rfl) ?_
  refine va_get (D := D) (ci := 1) (v := .int (nI sn)) (C := RX1) (T := TX1) (N := 12) hx hb hts iwX1_waiting_X1 hown hK hP 0 rfl rfl 10 (by decide) (hts (Cond.fieldLink RX1 45 "ShareDisk$Requests" "served" "I") mwX1_waiting_1) (fun _ h9 => h9) rfl dX1_waiting_5 ?_
  refine lv_isub hx hb dX1_waiting_8 ?_
  exact retI hc dX1_waiting_9 hK hP hD hS (⟨pk_sub hsn, rfl⟩) (Nat.le_of_ble_eq_true rfl) (Nat.le_of_ble_eq_true rfl)
theorem mwX1_served_0 : Cond.fieldLink RX1 45 "ShareDisk$Requests" "served" "I" ∈ wsX1_served := by decide +kernel
theorem iwX1_served_X1 : ∀ w ∈ wsX10, w ∈ wsX1_served := by decide +kernel
set_option maxHeartbeats 4000000 in
set_option maxRecDepth 100000 in
theorem kX1_served (l : Launch) (D : va_G) (k : Nat → ClassId) (q : Nat → Nat) (zz : Nat) (ow wr fi sz : Nat → Int32) (dl : Nat → Int64) (wt bl sh so : Nat → Int32) (tn sn un : Nat) : MI l yX1_served wsX1_served ({ frames := 0, cells := 0, slots := 0, locals := 0 } : Room) D k (RqW q k ow wr fi sz dl wt bl sh so tn sn un) zz [.ref (q 0)] (fun r9 w9 => r9 = (nI sn) ∧ w9 = RqW q k ow wr fi sz dl wt bl sh so tn sn un) 0 0 := by
  refine bodyOf (Qc := fun A => QI D k (fun r9 w9 => r9 = (nI sn) ∧ w9 = RqW q k ow wr fi sz dl wt bl sh so tn sn un) A) (cc := cX1_served) (maxL := 1) (ret := (some .int)) (by decide) rfl (Nat.le_of_ble_eq_true rfl) ?_
  intro p e s m below meth c A ls hc hA hK hP hD hS hl
  obtain ⟨hx, hb, hml, hr, hts, hown, hlocks, hin⟩ := (show _ from hc)
  have hl : lv_has ls 1 [(0, .ref (q 0))] := hl
  refine lv_aload_n hx hb dX1_served_0 rfl (lv_at hl 0 rfl) ?_
  refine va_get (D := D) (ci := 1) (v := .int (nI sn)) (C := RX1) (T := TX1) (N := 12) hx hb hts iwX1_served_X1 hown hK hP 0 rfl rfl 10 (by decide) (hts (Cond.fieldLink RX1 45 "ShareDisk$Requests" "served" "I") mwX1_served_0) (fun _ h9 => h9) rfl dX1_served_1 ?_
  exact retI hc dX1_served_4 hK hP hD hS (⟨rfl, rfl⟩) (Nat.le_of_ble_eq_true rfl) (Nat.le_of_ble_eq_true rfl)
theorem mwX1_urgent_0 : Cond.fieldLink RX1 48 "ShareDisk$Requests" "urgent" "I" ∈ wsX1_urgent := by decide +kernel
theorem iwX1_urgent_X1 : ∀ w ∈ wsX10, w ∈ wsX1_urgent := by decide +kernel
set_option maxHeartbeats 4000000 in
set_option maxRecDepth 100000 in
theorem kX1_urgent (l : Launch) (D : va_G) (k : Nat → ClassId) (q : Nat → Nat) (zz : Nat) (ow wr fi sz : Nat → Int32) (dl : Nat → Int64) (wt bl sh so : Nat → Int32) (tn sn un : Nat) : MI l yX1_urgent wsX1_urgent ({ frames := 0, cells := 0, slots := 0, locals := 0 } : Room) D k (RqW q k ow wr fi sz dl wt bl sh so tn sn un) zz [.ref (q 0)] (fun r9 w9 => r9 = (nI un) ∧ w9 = RqW q k ow wr fi sz dl wt bl sh so tn sn un) 0 0 := by
  refine bodyOf (Qc := fun A => QI D k (fun r9 w9 => r9 = (nI un) ∧ w9 = RqW q k ow wr fi sz dl wt bl sh so tn sn un) A) (cc := cX1_urgent) (maxL := 1) (ret := (some .int)) (by decide) rfl (Nat.le_of_ble_eq_true rfl) ?_
  intro p e s m below meth c A ls hc hA hK hP hD hS hl
  obtain ⟨hx, hb, hml, hr, hts, hown, hlocks, hin⟩ := (show _ from hc)
  have hl : lv_has ls 1 [(0, .ref (q 0))] := hl
  refine lv_aload_n hx hb dX1_urgent_0 rfl (lv_at hl 0 rfl) ?_
  refine va_get (D := D) (ci := 1) (v := .int (nI un)) (C := RX1) (T := TX1) (N := 12) hx hb hts iwX1_urgent_X1 hown hK hP 0 rfl rfl 11 (by decide) (hts (Cond.fieldLink RX1 48 "ShareDisk$Requests" "urgent" "I") mwX1_urgent_0) (fun _ h9 => h9) rfl dX1_urgent_1 ?_
  exact retI hc dX1_urgent_4 hK hP hD hS (⟨rfl, rfl⟩) (Nat.le_of_ble_eq_true rfl) (Nat.le_of_ble_eq_true rfl)
theorem mwX1_servedAt_0 : Cond.fieldLink RX1 45 "ShareDisk$Requests" "served" "I" ∈ wsX1_servedAt := by decide +kernel
theorem mwX1_servedAt_1 : Cond.fieldLink RX1 38 "ShareDisk$Requests" "servedOrder" "[I" ∈ wsX1_servedAt := by decide +kernel
theorem iwX1_servedAt_X1 : ∀ w ∈ wsX10, w ∈ wsX1_servedAt := by decide +kernel
set_option maxHeartbeats 4000000 in
set_option maxRecDepth 100000 in
theorem kX1_servedAt (l : Launch) (D : va_G) (k : Nat → ClassId) (q : Nat → Nat) (zz : Nat) (ow wr fi sz : Nat → Int32) (dl : Nat → Int64) (wt bl sh so : Nat → Int32) (tn sn un : Nat) (x : Int32) (hsn : sn ≤ 500) : MI l yX1_servedAt wsX1_servedAt ({ frames := 0, cells := 0, slots := 0, locals := 0 } : Room) D k (RqW q k ow wr fi sz dl wt bl sh so tn sn un) zz [.ref (q 0), .int x] (fun r9 w9 => r9 = (sAt so sn x) ∧ w9 = RqW q k ow wr fi sz dl wt bl sh so tn sn un) 0 0 := by
  refine bodyOf (Qc := fun A => QI D k (fun r9 w9 => r9 = (sAt so sn x) ∧ w9 = RqW q k ow wr fi sz dl wt bl sh so tn sn un) A) (cc := cX1_servedAt) (maxL := 2) (ret := (some .int)) (by decide) rfl (Nat.le_of_ble_eq_true rfl) ?_
  intro p e s m below meth c A ls hc hA hK hP hD hS hl
  obtain ⟨hx, hb, hml, hr, hts, hown, hlocks, hin⟩ := (show _ from hc)
  have hl : lv_has ls 2 [(0, .ref (q 0)), (1, .int x)] := hl
  refine lv_iload_n hx hb dX1_servedAt_0 rfl (lv_at hl 1 rfl) ?_
  refine lv_if_lt (tgt := 21) hx hb dX1_servedAt_1 (by decide) (fun c1 => ?_) (fun c1 => ?_)
  · refine lv_iconst (v := (-1)) hx hb dX1_servedAt_21 (by decide) ?_
    exact retI hc dX1_servedAt_22 hK hP hD hS (⟨by simp [sAt, c1], rfl⟩) (Nat.le_of_ble_eq_true rfl) (Nat.le_of_ble_eq_true rfl)
  · refine lv_iload_n hx hb dX1_servedAt_4 rfl (lv_at hl 1 rfl) ?_
    refine lv_aload_n hx hb dX1_servedAt_5 rfl (lv_at hl 0 rfl) ?_
    refine va_get (D := D) (ci := 1) (v := .int (nI sn)) (C := RX1) (T := TX1) (N := 12) hx hb hts iwX1_servedAt_X1 hown hK hP 0 rfl rfl 10 (by decide) (hts (Cond.fieldLink RX1 45 "ShareDisk$Requests" "served" "I") mwX1_servedAt_0) (fun _ h9 => h9) rfl dX1_servedAt_6 ?_
    refine lv_icmp_ge (tgt := 21) hx hb dX1_servedAt_9 (by decide) (fun c2 => ?_) (fun c2 => ?_)
    · refine lv_iconst (v := (-1)) hx hb dX1_servedAt_21 (by decide) ?_
      exact retI hc dX1_servedAt_22 hK hP hD hS (⟨by simp [sAt, c1, c2], rfl⟩) (Nat.le_of_ble_eq_true rfl) (Nat.le_of_ble_eq_true rfl)
    · obtain ⟨j, hj, rfl⟩ := ofI c1 c2 (by omega)
      refine lv_aload_n hx hb dX1_servedAt_12 rfl (lv_at hl 0 rfl) ?_
      refine va_get (D := D) (ci := 1) (v := .ref (q 9)) (C := RX1) (T := TX1) (N := 12) hx hb hts iwX1_servedAt_X1 hown hK hP 0 rfl rfl 8 (by decide) (hts (Cond.fieldLink RX1 38 "ShareDisk$Requests" "servedOrder" "[I") mwX1_servedAt_1) (fun _ h9 => h9) rfl dX1_servedAt_13 ?_
      refine lv_iload_n hx hb dX1_servedAt_16 rfl (lv_at hl 1 rfl) ?_
      refine aI hx hb hK hP 9 1 rfl rfl (ix5 (by omega)) dX1_servedAt_17 ?_
      refine lv_goto (tgt := 22) hx hb dX1_servedAt_18 (by decide) ?_
      exact retI hc dX1_servedAt_22 hK hP hD hS (⟨by simp [sAt, c1, c2, nI_clamp (show j < 2 ^ 31 by omega)], rfl⟩) (Nat.le_of_ble_eq_true rfl) (Nat.le_of_ble_eq_true rfl)
theorem mwX1_stateOf_0 : Cond.fieldLink RX1 29 "ShareDisk$Requests" "waits" "[Z" ∈ wsX1_stateOf := by decide +kernel
theorem mwX1_stateOf_1 : Cond.fieldLink RX1 32 "ShareDisk$Requests" "blockers" "[I" ∈ wsX1_stateOf := by decide +kernel
theorem mwX1_stateOf_2 : Cond.fieldLink RX1 35 "ShareDisk$Requests" "servedHow" "[I" ∈ wsX1_stateOf := by decide +kernel
theorem iwX1_stateOf_X1 : ∀ w ∈ wsX10, w ∈ wsX1_stateOf := by decide +kernel
set_option maxHeartbeats 4000000 in
set_option maxRecDepth 100000 in
theorem kX1_stateOf (l : Launch) (D : va_G) (k : Nat → ClassId) (q : Nat → Nat) (zz : Nat) (ow wr fi sz : Nat → Int32) (dl : Nat → Int64) (wt bl sh so : Nat → Int32) (tn sn un : Nat) (t : Nat) (ht : t < 500) : MI l yX1_stateOf wsX1_stateOf ({ frames := 0, cells := 0, slots := 0, locals := 0 } : Room) D k (RqW q k ow wr fi sz dl wt bl sh so tn sn un) zz [.ref (q 0), .int (nI t)] (fun r9 w9 => r9 = (stF wt bl sh t) ∧ w9 = RqW q k ow wr fi sz dl wt bl sh so tn sn un) 0 0 := by
  refine bodyOf (Qc := fun A => QI D k (fun r9 w9 => r9 = (stF wt bl sh t) ∧ w9 = RqW q k ow wr fi sz dl wt bl sh so tn sn un) A) (cc := cX1_stateOf) (maxL := 2) (ret := (some .int)) (by decide) rfl (Nat.le_of_ble_eq_true rfl) ?_
  intro p e s m below meth c A ls hc hA hK hP hD hS hl
  obtain ⟨hx, hb, hml, hr, hts, hown, hlocks, hin⟩ := (show _ from hc)
  have hl : lv_has ls 2 [(0, .ref (q 0)), (1, .int (nI t))] := hl
  refine lv_aload_n hx hb dX1_stateOf_0 rfl (lv_at hl 0 rfl) ?_
  refine va_get (D := D) (ci := 1) (v := .ref (q 6)) (C := RX1) (T := TX1) (N := 12) hx hb hts iwX1_stateOf_X1 hown hK hP 0 rfl rfl 5 (by decide) (hts (Cond.fieldLink RX1 29 "ShareDisk$Requests" "waits" "[Z") mwX1_stateOf_0) (fun _ h9 => h9) rfl dX1_stateOf_1 ?_
  refine lv_iload_n hx hb dX1_stateOf_4 rfl (lv_at hl 1 rfl) ?_
  refine aZ hx hb hK hP 6 0 rfl rfl (ix5 ht) dX1_stateOf_5 ?_
  refine lv_if_ne (tgt := 16) hx hb dX1_stateOf_6 (by decide) (fun c1 => ?_) (fun c1 => ?_)
  · refine lv_aload_n hx hb dX1_stateOf_16 rfl (lv_at hl 0 rfl) ?_
    refine va_get (D := D) (ci := 1) (v := .ref (q 7)) (C := RX1) (T := TX1) (N := 12) hx hb hts iwX1_stateOf_X1 hown hK hP 0 rfl rfl 6 (by decide) (hts (Cond.fieldLink RX1 32 "ShareDisk$Requests" "blockers" "[I") mwX1_stateOf_1) (fun _ h9 => h9) rfl dX1_stateOf_17 ?_
    refine lv_iload_n hx hb dX1_stateOf_20 rfl (lv_at hl 1 rfl) ?_
    refine aI hx hb hK hP 7 1 rfl rfl (ix5 ht) dX1_stateOf_21 ?_
    refine lv_if_le (tgt := 29) hx hb dX1_stateOf_22 (by decide) (fun c2 => ?_) (fun c2 => ?_)
    · refine lv_iconst (v := nI 1) hx hb dX1_stateOf_29 (by decide) ?_
      exact retI hc dX1_stateOf_30 hK hP hD hS (⟨by simp [stF, c1, c2], rfl⟩) (Nat.le_of_ble_eq_true rfl) (Nat.le_of_ble_eq_true rfl)
    · refine lv_iconst (v := nI 0) hx hb dX1_stateOf_25 (by decide) ?_
      refine lv_goto (tgt := 30) hx hb dX1_stateOf_26 (by decide) ?_
      exact retI hc dX1_stateOf_30 hK hP hD hS (⟨by simp [stF, c1, c2], rfl⟩) (Nat.le_of_ble_eq_true rfl) (Nat.le_of_ble_eq_true rfl)
  · refine lv_aload_n hx hb dX1_stateOf_9 rfl (lv_at hl 0 rfl) ?_
    refine va_get (D := D) (ci := 1) (v := .ref (q 8)) (C := RX1) (T := TX1) (N := 12) hx hb hts iwX1_stateOf_X1 hown hK hP 0 rfl rfl 7 (by decide) (hts (Cond.fieldLink RX1 35 "ShareDisk$Requests" "servedHow" "[I") mwX1_stateOf_2) (fun _ h9 => h9) rfl dX1_stateOf_10 ?_
    refine lv_iload_n hx hb dX1_stateOf_13 rfl (lv_at hl 1 rfl) ?_
    refine aI hx hb hK hP 8 1 rfl rfl (ix5 ht) dX1_stateOf_14 ?_
    exact retI hc dX1_stateOf_15 hK hP hD hS (⟨by simp [stF, c1], rfl⟩) (Nat.le_of_ble_eq_true rfl) (Nat.le_of_ble_eq_true rfl)
theorem mwX1_mustKeepOrder_0 : Cond.fieldLink RX1 9 "ShareDisk$Requests" "owner" "[I" ∈ wsX1_mustKeepOrder := by decide +kernel
theorem mwX1_mustKeepOrder_1 : Cond.fieldLink RX1 15 "ShareDisk$Requests" "write" "[Z" ∈ wsX1_mustKeepOrder := by decide +kernel
theorem mwX1_mustKeepOrder_2 : Cond.fieldLink RX1 19 "ShareDisk$Requests" "first" "[I" ∈ wsX1_mustKeepOrder := by decide +kernel
theorem mwX1_mustKeepOrder_3 : Cond.fieldLink RX1 22 "ShareDisk$Requests" "size" "[I" ∈ wsX1_mustKeepOrder := by decide +kernel
theorem iwX1_mustKeepOrder_X1 : ∀ w ∈ wsX10, w ∈ wsX1_mustKeepOrder := by decide +kernel
set_option maxHeartbeats 4000000 in
set_option maxRecDepth 100000 in
theorem kX1_mustKeepOrder (l : Launch) (D : va_G) (k : Nat → ClassId) (q : Nat → Nat) (zz : Nat) (ow wr fi sz : Nat → Int32) (dl : Nat → Int64) (wt bl sh so : Nat → Int32) (tn sn un : Nat) (a : Nat) (b : Nat) (ha : a < 500) (hb5 : b < 500) : MI l yX1_mustKeepOrder wsX1_mustKeepOrder ({ frames := 0, cells := 0, slots := 0, locals := 0 } : Room) D k (RqW q k ow wr fi sz dl wt bl sh so tn sn un) zz [.ref (q 0), .int (nI a), .int (nI b)] (fun r9 w9 => r9 = (bI (mkO ow wr fi sz a b)) ∧ w9 = RqW q k ow wr fi sz dl wt bl sh so tn sn un) 0 0 := by
  refine bodyOf (Qc := fun A => QI D k (fun r9 w9 => r9 = (bI (mkO ow wr fi sz a b)) ∧ w9 = RqW q k ow wr fi sz dl wt bl sh so tn sn un) A) (cc := cX1_mustKeepOrder) (maxL := 3) (ret := (some .boolean)) (by decide) rfl (Nat.le_of_ble_eq_true rfl) ?_
  intro p e s m below meth c A ls hc hA hK hP hD hS hl
  obtain ⟨hx, hb, hml, hr, hts, hown, hlocks, hin⟩ := (show _ from hc)
  have hl : lv_has ls 3 [(0, .ref (q 0)), (1, .int (nI a)), (2, .int (nI b))] := hl
  refine lv_aload_n hx hb dX1_mustKeepOrder_0 rfl (lv_at hl 0 rfl) ?_
  refine va_get (D := D) (ci := 1) (v := .ref (q 1)) (C := RX1) (T := TX1) (N := 12) hx hb hts iwX1_mustKeepOrder_X1 hown hK hP 0 rfl rfl 0 (by decide) (hts (Cond.fieldLink RX1 9 "ShareDisk$Requests" "owner" "[I") mwX1_mustKeepOrder_0) (fun _ h9 => h9) rfl dX1_mustKeepOrder_1 ?_
  refine lv_iload_n hx hb dX1_mustKeepOrder_4 rfl (lv_at hl 1 rfl) ?_
  refine aI hx hb hK hP 1 1 rfl rfl (ix5 ha) dX1_mustKeepOrder_5 ?_
  refine lv_aload_n hx hb dX1_mustKeepOrder_6 rfl (lv_at hl 0 rfl) ?_
  refine va_get (D := D) (ci := 1) (v := .ref (q 1)) (C := RX1) (T := TX1) (N := 12) hx hb hts iwX1_mustKeepOrder_X1 hown hK hP 0 rfl rfl 0 (by decide) (hts (Cond.fieldLink RX1 9 "ShareDisk$Requests" "owner" "[I") mwX1_mustKeepOrder_0) (fun _ h9 => h9) rfl dX1_mustKeepOrder_7 ?_
  refine lv_iload_n hx hb dX1_mustKeepOrder_10 rfl (lv_at hl 2 rfl) ?_
  refine aI hx hb hK hP 1 1 rfl rfl (ix5 hb5) dX1_mustKeepOrder_11 ?_
  refine lv_icmp_ne (tgt := 81) hx hb dX1_mustKeepOrder_12 (by decide) (fun c1 => ?_) (fun c1 => ?_)
  · refine lv_iconst (v := nI 0) hx hb dX1_mustKeepOrder_81 (by decide) ?_
    exact retZ hc dX1_mustKeepOrder_82 hK hP hD hS (Or.inl rfl) (⟨bI_f (by simp [c1]), rfl⟩) (Nat.le_of_ble_eq_true rfl) (Nat.le_of_ble_eq_true rfl)
  · refine lv_aload_n hx hb dX1_mustKeepOrder_15 rfl (lv_at hl 0 rfl) ?_
    refine va_get (D := D) (ci := 1) (v := .ref (q 2)) (C := RX1) (T := TX1) (N := 12) hx hb hts iwX1_mustKeepOrder_X1 hown hK hP 0 rfl rfl 1 (by decide) (hts (Cond.fieldLink RX1 15 "ShareDisk$Requests" "write" "[Z") mwX1_mustKeepOrder_1) (fun _ h9 => h9) rfl dX1_mustKeepOrder_16 ?_
    refine lv_iload_n hx hb dX1_mustKeepOrder_19 rfl (lv_at hl 1 rfl) ?_
    refine aZ hx hb hK hP 2 0 rfl rfl (ix5 ha) dX1_mustKeepOrder_20 ?_
    refine lv_if_ne (tgt := 33) hx hb dX1_mustKeepOrder_21 (by decide) (fun c2 => ?_) (fun c2 => ?_)
    · refine lv_aload_n hx hb dX1_mustKeepOrder_33 rfl (lv_at hl 0 rfl) ?_
      refine va_get (D := D) (ci := 1) (v := .ref (q 3)) (C := RX1) (T := TX1) (N := 12) hx hb hts iwX1_mustKeepOrder_X1 hown hK hP 0 rfl rfl 2 (by decide) (hts (Cond.fieldLink RX1 19 "ShareDisk$Requests" "first" "[I") mwX1_mustKeepOrder_2) (fun _ h9 => h9) rfl dX1_mustKeepOrder_34 ?_
      refine lv_iload_n hx hb dX1_mustKeepOrder_37 rfl (lv_at hl 1 rfl) ?_
      refine aI hx hb hK hP 3 1 rfl rfl (ix5 ha) dX1_mustKeepOrder_38 ?_
      refine lv_aload_n hx hb dX1_mustKeepOrder_39 rfl (lv_at hl 0 rfl) ?_
      refine va_get (D := D) (ci := 1) (v := .ref (q 3)) (C := RX1) (T := TX1) (N := 12) hx hb hts iwX1_mustKeepOrder_X1 hown hK hP 0 rfl rfl 2 (by decide) (hts (Cond.fieldLink RX1 19 "ShareDisk$Requests" "first" "[I") mwX1_mustKeepOrder_2) (fun _ h9 => h9) rfl dX1_mustKeepOrder_40 ?_
      refine lv_iload_n hx hb dX1_mustKeepOrder_43 rfl (lv_at hl 2 rfl) ?_
      refine aI hx hb hK hP 3 1 rfl rfl (ix5 hb5) dX1_mustKeepOrder_44 ?_
      refine lv_aload_n hx hb dX1_mustKeepOrder_45 rfl (lv_at hl 0 rfl) ?_
      refine va_get (D := D) (ci := 1) (v := .ref (q 4)) (C := RX1) (T := TX1) (N := 12) hx hb hts iwX1_mustKeepOrder_X1 hown hK hP 0 rfl rfl 3 (by decide) (hts (Cond.fieldLink RX1 22 "ShareDisk$Requests" "size" "[I") mwX1_mustKeepOrder_3) (fun _ h9 => h9) rfl dX1_mustKeepOrder_46 ?_
      refine lv_iload_n hx hb dX1_mustKeepOrder_49 rfl (lv_at hl 2 rfl) ?_
      refine aI hx hb hK hP 4 1 rfl rfl (ix5 hb5) dX1_mustKeepOrder_50 ?_
      refine lv_iadd hx hb dX1_mustKeepOrder_51 ?_
      refine lv_icmp_ge (tgt := 81) hx hb dX1_mustKeepOrder_52 (by decide) (fun c3 => ?_) (fun c3 => ?_)
      · refine lv_iconst (v := nI 0) hx hb dX1_mustKeepOrder_81 (by decide) ?_
        exact retZ hc dX1_mustKeepOrder_82 hK hP hD hS (Or.inl rfl) (⟨bI_f (by simp [c1, c2, c3]), rfl⟩) (Nat.le_of_ble_eq_true rfl) (Nat.le_of_ble_eq_true rfl)
      · refine lv_aload_n hx hb dX1_mustKeepOrder_55 rfl (lv_at hl 0 rfl) ?_
        refine va_get (D := D) (ci := 1) (v := .ref (q 3)) (C := RX1) (T := TX1) (N := 12) hx hb hts iwX1_mustKeepOrder_X1 hown hK hP 0 rfl rfl 2 (by decide) (hts (Cond.fieldLink RX1 19 "ShareDisk$Requests" "first" "[I") mwX1_mustKeepOrder_2) (fun _ h9 => h9) rfl dX1_mustKeepOrder_56 ?_
        refine lv_iload_n hx hb dX1_mustKeepOrder_59 rfl (lv_at hl 2 rfl) ?_
        refine aI hx hb hK hP 3 1 rfl rfl (ix5 hb5) dX1_mustKeepOrder_60 ?_
        refine lv_aload_n hx hb dX1_mustKeepOrder_61 rfl (lv_at hl 0 rfl) ?_
        refine va_get (D := D) (ci := 1) (v := .ref (q 3)) (C := RX1) (T := TX1) (N := 12) hx hb hts iwX1_mustKeepOrder_X1 hown hK hP 0 rfl rfl 2 (by decide) (hts (Cond.fieldLink RX1 19 "ShareDisk$Requests" "first" "[I") mwX1_mustKeepOrder_2) (fun _ h9 => h9) rfl dX1_mustKeepOrder_62 ?_
        refine lv_iload_n hx hb dX1_mustKeepOrder_65 rfl (lv_at hl 1 rfl) ?_
        refine aI hx hb hK hP 3 1 rfl rfl (ix5 ha) dX1_mustKeepOrder_66 ?_
        refine lv_aload_n hx hb dX1_mustKeepOrder_67 rfl (lv_at hl 0 rfl) ?_
        refine va_get (D := D) (ci := 1) (v := .ref (q 4)) (C := RX1) (T := TX1) (N := 12) hx hb hts iwX1_mustKeepOrder_X1 hown hK hP 0 rfl rfl 3 (by decide) (hts (Cond.fieldLink RX1 22 "ShareDisk$Requests" "size" "[I") mwX1_mustKeepOrder_3) (fun _ h9 => h9) rfl dX1_mustKeepOrder_68 ?_
        refine lv_iload_n hx hb dX1_mustKeepOrder_71 rfl (lv_at hl 1 rfl) ?_
        refine aI hx hb hK hP 4 1 rfl rfl (ix5 ha) dX1_mustKeepOrder_72 ?_
        refine lv_iadd hx hb dX1_mustKeepOrder_73 ?_
        refine lv_icmp_ge (tgt := 81) hx hb dX1_mustKeepOrder_74 (by decide) (fun c4 => ?_) (fun c4 => ?_)
        · refine lv_iconst (v := nI 0) hx hb dX1_mustKeepOrder_81 (by decide) ?_
          exact retZ hc dX1_mustKeepOrder_82 hK hP hD hS (Or.inl rfl) (⟨bI_f (by simp [c1, c2, c3, c4]), rfl⟩) (Nat.le_of_ble_eq_true rfl) (Nat.le_of_ble_eq_true rfl)
        · refine lv_iconst (v := nI 1) hx hb dX1_mustKeepOrder_77 (by decide) ?_
          refine lv_goto (tgt := 82) hx hb dX1_mustKeepOrder_78 (by decide) ?_
          exact retZ hc dX1_mustKeepOrder_82 hK hP hD hS (Or.inr rfl) (⟨bI_t ⟨c1, Or.inl c2, c3, c4⟩, rfl⟩) (Nat.le_of_ble_eq_true rfl) (Nat.le_of_ble_eq_true rfl)
    · refine lv_aload_n hx hb dX1_mustKeepOrder_24 rfl (lv_at hl 0 rfl) ?_
      refine va_get (D := D) (ci := 1) (v := .ref (q 2)) (C := RX1) (T := TX1) (N := 12) hx hb hts iwX1_mustKeepOrder_X1 hown hK hP 0 rfl rfl 1 (by decide) (hts (Cond.fieldLink RX1 15 "ShareDisk$Requests" "write" "[Z") mwX1_mustKeepOrder_1) (fun _ h9 => h9) rfl dX1_mustKeepOrder_25 ?_
      refine lv_iload_n hx hb dX1_mustKeepOrder_28 rfl (lv_at hl 2 rfl) ?_
      refine aZ hx hb hK hP 2 0 rfl rfl (ix5 hb5) dX1_mustKeepOrder_29 ?_
      refine lv_if_eq (tgt := 81) hx hb dX1_mustKeepOrder_30 (by decide) (fun c5 => ?_) (fun c5 => ?_)
      · refine lv_iconst (v := nI 0) hx hb dX1_mustKeepOrder_81 (by decide) ?_
        exact retZ hc dX1_mustKeepOrder_82 hK hP hD hS (Or.inl rfl) (⟨bI_f (by simp [c1, c2, c5]), rfl⟩) (Nat.le_of_ble_eq_true rfl) (Nat.le_of_ble_eq_true rfl)
      · refine lv_aload_n hx hb dX1_mustKeepOrder_33 rfl (lv_at hl 0 rfl) ?_
        refine va_get (D := D) (ci := 1) (v := .ref (q 3)) (C := RX1) (T := TX1) (N := 12) hx hb hts iwX1_mustKeepOrder_X1 hown hK hP 0 rfl rfl 2 (by decide) (hts (Cond.fieldLink RX1 19 "ShareDisk$Requests" "first" "[I") mwX1_mustKeepOrder_2) (fun _ h9 => h9) rfl dX1_mustKeepOrder_34 ?_
        refine lv_iload_n hx hb dX1_mustKeepOrder_37 rfl (lv_at hl 1 rfl) ?_
        refine aI hx hb hK hP 3 1 rfl rfl (ix5 ha) dX1_mustKeepOrder_38 ?_
        refine lv_aload_n hx hb dX1_mustKeepOrder_39 rfl (lv_at hl 0 rfl) ?_
        refine va_get (D := D) (ci := 1) (v := .ref (q 3)) (C := RX1) (T := TX1) (N := 12) hx hb hts iwX1_mustKeepOrder_X1 hown hK hP 0 rfl rfl 2 (by decide) (hts (Cond.fieldLink RX1 19 "ShareDisk$Requests" "first" "[I") mwX1_mustKeepOrder_2) (fun _ h9 => h9) rfl dX1_mustKeepOrder_40 ?_
        refine lv_iload_n hx hb dX1_mustKeepOrder_43 rfl (lv_at hl 2 rfl) ?_
        refine aI hx hb hK hP 3 1 rfl rfl (ix5 hb5) dX1_mustKeepOrder_44 ?_
        refine lv_aload_n hx hb dX1_mustKeepOrder_45 rfl (lv_at hl 0 rfl) ?_
        refine va_get (D := D) (ci := 1) (v := .ref (q 4)) (C := RX1) (T := TX1) (N := 12) hx hb hts iwX1_mustKeepOrder_X1 hown hK hP 0 rfl rfl 3 (by decide) (hts (Cond.fieldLink RX1 22 "ShareDisk$Requests" "size" "[I") mwX1_mustKeepOrder_3) (fun _ h9 => h9) rfl dX1_mustKeepOrder_46 ?_
        refine lv_iload_n hx hb dX1_mustKeepOrder_49 rfl (lv_at hl 2 rfl) ?_
        refine aI hx hb hK hP 4 1 rfl rfl (ix5 hb5) dX1_mustKeepOrder_50 ?_
        refine lv_iadd hx hb dX1_mustKeepOrder_51 ?_
        refine lv_icmp_ge (tgt := 81) hx hb dX1_mustKeepOrder_52 (by decide) (fun c6 => ?_) (fun c6 => ?_)
        · refine lv_iconst (v := nI 0) hx hb dX1_mustKeepOrder_81 (by decide) ?_
          exact retZ hc dX1_mustKeepOrder_82 hK hP hD hS (Or.inl rfl) (⟨bI_f (by simp [c1, c2, c5, c6]), rfl⟩) (Nat.le_of_ble_eq_true rfl) (Nat.le_of_ble_eq_true rfl)
        · refine lv_aload_n hx hb dX1_mustKeepOrder_55 rfl (lv_at hl 0 rfl) ?_
          refine va_get (D := D) (ci := 1) (v := .ref (q 3)) (C := RX1) (T := TX1) (N := 12) hx hb hts iwX1_mustKeepOrder_X1 hown hK hP 0 rfl rfl 2 (by decide) (hts (Cond.fieldLink RX1 19 "ShareDisk$Requests" "first" "[I") mwX1_mustKeepOrder_2) (fun _ h9 => h9) rfl dX1_mustKeepOrder_56 ?_
          refine lv_iload_n hx hb dX1_mustKeepOrder_59 rfl (lv_at hl 2 rfl) ?_
          refine aI hx hb hK hP 3 1 rfl rfl (ix5 hb5) dX1_mustKeepOrder_60 ?_
          refine lv_aload_n hx hb dX1_mustKeepOrder_61 rfl (lv_at hl 0 rfl) ?_
          refine va_get (D := D) (ci := 1) (v := .ref (q 3)) (C := RX1) (T := TX1) (N := 12) hx hb hts iwX1_mustKeepOrder_X1 hown hK hP 0 rfl rfl 2 (by decide) (hts (Cond.fieldLink RX1 19 "ShareDisk$Requests" "first" "[I") mwX1_mustKeepOrder_2) (fun _ h9 => h9) rfl dX1_mustKeepOrder_62 ?_
          refine lv_iload_n hx hb dX1_mustKeepOrder_65 rfl (lv_at hl 1 rfl) ?_
          refine aI hx hb hK hP 3 1 rfl rfl (ix5 ha) dX1_mustKeepOrder_66 ?_
          refine lv_aload_n hx hb dX1_mustKeepOrder_67 rfl (lv_at hl 0 rfl) ?_
          refine va_get (D := D) (ci := 1) (v := .ref (q 4)) (C := RX1) (T := TX1) (N := 12) hx hb hts iwX1_mustKeepOrder_X1 hown hK hP 0 rfl rfl 3 (by decide) (hts (Cond.fieldLink RX1 22 "ShareDisk$Requests" "size" "[I") mwX1_mustKeepOrder_3) (fun _ h9 => h9) rfl dX1_mustKeepOrder_68 ?_
          refine lv_iload_n hx hb dX1_mustKeepOrder_71 rfl (lv_at hl 1 rfl) ?_
          refine aI hx hb hK hP 4 1 rfl rfl (ix5 ha) dX1_mustKeepOrder_72 ?_
          refine lv_iadd hx hb dX1_mustKeepOrder_73 ?_
          refine lv_icmp_ge (tgt := 81) hx hb dX1_mustKeepOrder_74 (by decide) (fun c7 => ?_) (fun c7 => ?_)
          · refine lv_iconst (v := nI 0) hx hb dX1_mustKeepOrder_81 (by decide) ?_
            exact retZ hc dX1_mustKeepOrder_82 hK hP hD hS (Or.inl rfl) (⟨bI_f (by simp [c1, c2, c5, c6, c7]), rfl⟩) (Nat.le_of_ble_eq_true rfl) (Nat.le_of_ble_eq_true rfl)
          · refine lv_iconst (v := nI 1) hx hb dX1_mustKeepOrder_77 (by decide) ?_
            refine lv_goto (tgt := 82) hx hb dX1_mustKeepOrder_78 (by decide) ?_
            exact retZ hc dX1_mustKeepOrder_82 hK hP hD hS (Or.inr rfl) (⟨bI_t ⟨c1, Or.inr c5, c6, c7⟩, rfl⟩) (Nat.le_of_ble_eq_true rfl) (Nat.le_of_ble_eq_true rfl)
theorem mwX1_add_0 : Cond.fieldLink RX1 41 "ShareDisk$Requests" "tickets" "I" ∈ wsX1_add := by decide +kernel
theorem mwX1_add_1 : Cond.fieldLink RX1 9 "ShareDisk$Requests" "owner" "[I" ∈ wsX1_add := by decide +kernel
theorem mwX1_add_2 : Cond.fieldLink RX1 15 "ShareDisk$Requests" "write" "[Z" ∈ wsX1_add := by decide +kernel
theorem mwX1_add_3 : Cond.fieldLink RX1 19 "ShareDisk$Requests" "first" "[I" ∈ wsX1_add := by decide +kernel
theorem mwX1_add_4 : Cond.fieldLink RX1 22 "ShareDisk$Requests" "size" "[I" ∈ wsX1_add := by decide +kernel
theorem mwX1_add_5 : Cond.fieldLink RX1 25 "ShareDisk$Requests" "deadline" "[J" ∈ wsX1_add := by decide +kernel
theorem mwX1_add_6 : Cond.fieldLink RX1 29 "ShareDisk$Requests" "waits" "[Z" ∈ wsX1_add := by decide +kernel
theorem mwX1_add_7 : Cond.fieldLink RX1 32 "ShareDisk$Requests" "blockers" "[I" ∈ wsX1_add := by decide +kernel
theorem iwX1_add_X1 : ∀ w ∈ wsX10, w ∈ wsX1_add := by decide +kernel
set_option maxHeartbeats 4000000 in
set_option maxRecDepth 100000 in
theorem kX1_add (l : Launch) (D : va_G) (k : Nat → ClassId) (q : Nat → Nat) (zz : Nat) (ow wr fi sz : Nat → Int32) (dl : Nat → Int64) (wt bl sh so : Nat → Int32) (tn sn un : Nat) (id : Nat) (w : Int32) (x : Int32) (y : Int32) (z : Int64) (htn : tn < 500) (hw : w = 0 ∨ w = 1) : MI l yX1_add wsX1_add ({ frames := 1, cells := 0, slots := 0, locals := 22 } : Room) D k (RqW q k ow wr fi sz dl wt bl sh so tn sn un) zz [.ref (q 0), .int (nI id), .int w, .int x, .int y, .long z] (fun r9 w9 => r9 = (nI tn) ∧ w9 = RqW q k (upd ow tn (nI id)) (upd wr tn w) (upd fi tn x) (upd sz tn y) (vp_updL dl tn z) (upd wt tn (nI 1)) (adB (upd ow tn (nI id)) (upd wr tn w) (upd fi tn x) (upd sz tn y) (upd wt tn (nI 1)) bl tn tn) sh so (tn + 1) sn un) 0 0 := by
  refine bodyOf (Qc := fun A => QI D k (fun r9 w9 => r9 = (nI tn) ∧ w9 = RqW q k (upd ow tn (nI id)) (upd wr tn w) (upd fi tn x) (upd sz tn y) (vp_updL dl tn z) (upd wt tn (nI 1)) (adB (upd ow tn (nI id)) (upd wr tn w) (upd fi tn x) (upd sz tn y) (upd wt tn (nI 1)) bl tn tn) sh so (tn + 1) sn un) A) (cc := cX1_add) (maxL := 9) (ret := (some .int)) (by decide) rfl (Nat.le_of_ble_eq_true rfl) ?_
  intro p e s m below meth c A ls hc hA hK hP hD hS hl
  obtain ⟨hx, hb, hml, hr, hts, hown, hlocks, hin⟩ := (show _ from hc)
  have hl : lv_has ls 9 [(0, .ref (q 0)), (1, .int (nI id)), (2, .int w), (3, .int x), (4, .int y), (5, .long z)] := hl
  refine lv_aload_n hx hb dX1_add_0 rfl (lv_at hl 0 rfl) ?_
  refine va_get (D := D) (ci := 1) (v := .int (nI tn)) (C := RX1) (T := TX1) (N := 12) hx hb hts iwX1_add_X1 hown hK hP 0 rfl rfl 9 (by decide) (hts (Cond.fieldLink RX1 41 "ShareDisk$Requests" "tickets" "I") mwX1_add_0) (fun _ h9 => h9) rfl dX1_add_1 ?_
  refine lv_istore (lv' := [(7, .int (nI tn)), (0, .ref (q 0)), (1, .int (nI id)), (2, .int w), (3, .int x), (4, .int y), (5, .long z)]) hx hb dX1_add_4 hl (by decide) rfl (fun ls hl => ?_)
  refine lv_aload_n hx hb dX1_add_6 rfl (lv_at hl 1 rfl) ?_
  refine va_get (D := D) (ci := 1) (v := .ref (q 1)) (C := RX1) (T := TX1) (N := 12) hx hb hts iwX1_add_X1 hown hK hP 0 rfl rfl 0 (by decide) (hts (Cond.fieldLink RX1 9 "ShareDisk$Requests" "owner" "[I") mwX1_add_1) (fun _ h9 => h9) rfl dX1_add_7 ?_
  refine lv_iload hx hb dX1_add_10 (lv_at hl 0 rfl) ?_
  refine lv_iload_n hx hb dX1_add_12 rfl (lv_at hl 2 rfl) ?_
  refine sI hx hb hK hP hD hS 1 1 rfl rfl (ix5 htn) dX1_add_13 (fun H locs hP hD hS => ?_)
  have hP : va_P D vwCl (RqW q k (upd ow tn (nI id)) wr fi sz dl wt bl sh so tn sn un) H := hP
  have hD : va_D A (RqW q k (upd ow tn (nI id)) wr fi sz dl wt bl sh so tn sn un) := hD
  refine lv_aload_n hx hb dX1_add_14 rfl (lv_at hl 1 rfl) ?_
  refine va_get (D := D) (ci := 1) (v := .ref (q 2)) (C := RX1) (T := TX1) (N := 12) hx hb hts iwX1_add_X1 hown hK hP 0 rfl rfl 1 (by decide) (hts (Cond.fieldLink RX1 15 "ShareDisk$Requests" "write" "[Z") mwX1_add_2) (fun _ h9 => h9) rfl dX1_add_15 ?_
  refine lv_iload hx hb dX1_add_18 (lv_at hl 0 rfl) ?_
  refine lv_iload_n hx hb dX1_add_20 rfl (lv_at hl 3 rfl) ?_
  refine sZ hx hb hK hP hD hS 2 0 rfl rfl (ix5 htn) hw dX1_add_21 (fun H locs hP hD hS => ?_)
  have hP : va_P D vwCl (RqW q k (upd ow tn (nI id)) (upd wr tn w) fi sz dl wt bl sh so tn sn un) H := hP
  have hD : va_D A (RqW q k (upd ow tn (nI id)) (upd wr tn w) fi sz dl wt bl sh so tn sn un) := hD
  refine lv_aload_n hx hb dX1_add_22 rfl (lv_at hl 1 rfl) ?_
  refine va_get (D := D) (ci := 1) (v := .ref (q 3)) (C := RX1) (T := TX1) (N := 12) hx hb hts iwX1_add_X1 hown hK hP 0 rfl rfl 2 (by decide) (hts (Cond.fieldLink RX1 19 "ShareDisk$Requests" "first" "[I") mwX1_add_3) (fun _ h9 => h9) rfl dX1_add_23 ?_
  refine lv_iload hx hb dX1_add_26 (lv_at hl 0 rfl) ?_
  refine lv_iload_n hx hb dX1_add_28 rfl (lv_at hl 4 rfl) ?_
  refine sI hx hb hK hP hD hS 3 1 rfl rfl (ix5 htn) dX1_add_29 (fun H locs hP hD hS => ?_)
  have hP : va_P D vwCl (RqW q k (upd ow tn (nI id)) (upd wr tn w) (upd fi tn x) sz dl wt bl sh so tn sn un) H := hP
  have hD : va_D A (RqW q k (upd ow tn (nI id)) (upd wr tn w) (upd fi tn x) sz dl wt bl sh so tn sn un) := hD
  refine lv_aload_n hx hb dX1_add_30 rfl (lv_at hl 1 rfl) ?_
  refine va_get (D := D) (ci := 1) (v := .ref (q 4)) (C := RX1) (T := TX1) (N := 12) hx hb hts iwX1_add_X1 hown hK hP 0 rfl rfl 3 (by decide) (hts (Cond.fieldLink RX1 22 "ShareDisk$Requests" "size" "[I") mwX1_add_4) (fun _ h9 => h9) rfl dX1_add_31 ?_
  refine lv_iload hx hb dX1_add_34 (lv_at hl 0 rfl) ?_
  refine lv_iload hx hb dX1_add_36 (lv_at hl 5 rfl) ?_
  refine sI hx hb hK hP hD hS 4 1 rfl rfl (ix5 htn) dX1_add_38 (fun H locs hP hD hS => ?_)
  have hP : va_P D vwCl (RqW q k (upd ow tn (nI id)) (upd wr tn w) (upd fi tn x) (upd sz tn y) dl wt bl sh so tn sn un) H := hP
  have hD : va_D A (RqW q k (upd ow tn (nI id)) (upd wr tn w) (upd fi tn x) (upd sz tn y) dl wt bl sh so tn sn un) := hD
  refine lv_aload_n hx hb dX1_add_39 rfl (lv_at hl 1 rfl) ?_
  refine va_get (D := D) (ci := 1) (v := .ref (q 5)) (C := RX1) (T := TX1) (N := 12) hx hb hts iwX1_add_X1 hown hK hP 0 rfl rfl 4 (by decide) (hts (Cond.fieldLink RX1 25 "ShareDisk$Requests" "deadline" "[J") mwX1_add_5) (fun _ h9 => h9) rfl dX1_add_40 ?_
  refine lv_iload hx hb dX1_add_43 (lv_at hl 0 rfl) ?_
  refine lv_lload hx hb dX1_add_45 (lv_at hl 6 rfl) ?_
  refine sJ hx hb hK hP hD hS 5 2 rfl rfl (ix5 htn) dX1_add_47 (fun H locs hP hD hS => ?_)
  have hP : va_P D vwCl (RqW q k (upd ow tn (nI id)) (upd wr tn w) (upd fi tn x) (upd sz tn y) (vp_updL dl tn z) wt bl sh so tn sn un) H := hP
  have hD : va_D A (RqW q k (upd ow tn (nI id)) (upd wr tn w) (upd fi tn x) (upd sz tn y) (vp_updL dl tn z) wt bl sh so tn sn un) := hD
  refine lv_aload_n hx hb dX1_add_48 rfl (lv_at hl 1 rfl) ?_
  refine va_get (D := D) (ci := 1) (v := .ref (q 6)) (C := RX1) (T := TX1) (N := 12) hx hb hts iwX1_add_X1 hown hK hP 0 rfl rfl 5 (by decide) (hts (Cond.fieldLink RX1 29 "ShareDisk$Requests" "waits" "[Z") mwX1_add_6) (fun _ h9 => h9) rfl dX1_add_49 ?_
  refine lv_iload hx hb dX1_add_52 (lv_at hl 0 rfl) ?_
  refine lv_iconst (v := nI 1) hx hb dX1_add_54 (by decide) ?_
  refine sZ hx hb hK hP hD hS 6 0 rfl rfl (ix5 htn) (Or.inr rfl) dX1_add_55 (fun H locs hP hD hS => ?_)
  have hP : va_P D vwCl (RqW q k (upd ow tn (nI id)) (upd wr tn w) (upd fi tn x) (upd sz tn y) (vp_updL dl tn z) (upd wt tn (nI 1)) bl sh so tn sn un) H := hP
  have hD : va_D A (RqW q k (upd ow tn (nI id)) (upd wr tn w) (upd fi tn x) (upd sz tn y) (vp_updL dl tn z) (upd wt tn (nI 1)) bl sh so tn sn un) := hD
  refine lv_iconst (v := nI 0) hx hb dX1_add_56 (by decide) ?_
  refine lv_istore (lv' := [(8, .int (nI 0)), (7, .int (nI tn)), (0, .ref (q 0)), (1, .int (nI id)), (2, .int w), (3, .int x), (4, .int y), (5, .long z)]) hx hb dX1_add_57 hl (by decide) rfl (fun ls hl => ?_)
  have loop59 : ∀ (n : Nat) (i : Nat) (B : Nat → Int32), (i ≤ tn) → (B = adB (upd ow tn (nI id)) (upd wr tn w) (upd fi tn x) (upd sz tn y) (upd wt tn (nI 1)) bl tn i) → tn - i < n → ∀ (H : Heap) (locs : List Loc) (ls : Array Slot), va_P D vwCl (RqW q k (upd ow tn (nI id)) (upd wr tn w) (upd fi tn x) (upd sz tn y) (vp_updL dl tn z) (upd wt tn (nI 1)) B sh so tn sn un) H → va_D A (RqW q k (upd ow tn (nI id)) (upd wr tn w) (upd fi tn x) (upd sz tn y) (vp_updL dl tn z) (upd wt tn (nI 1)) B sh so tn sn un) → va_S A s.heap H locs → lv_has ls 9 [(0, .ref (q 0)), (1, .int (nI id)), (2, .int w), (3, .int x), (4, .int y), (5, .long z), (7, .int (nI tn)), (8, .int (nI i))] → W p l e ({ frames := 1, cells := 0, slots := 0, locals := 22 } : Room) s m [.ref (q 0), .int (nI id), .int w, .int x, .int y, .long z].toArray below meth c H locs 0 0 (MQ below (QI D k (fun r9 w9 => r9 = (nI tn) ∧ w9 = RqW q k (upd ow tn (nI id)) (upd wr tn w) (upd fi tn x) (upd sz tn y) (vp_updL dl tn z) (upd wt tn (nI 1)) (adB (upd ow tn (nI id)) (upd wr tn w) (upd fi tn x) (upd sz tn y) (upd wt tn (nI 1)) bl tn tn) sh so (tn + 1) sn un) A) [.ref (q 0), .int (nI id), .int w, .int x, .int y, .long z].toArray s 0 0 A) (F0 m 59 ls []) := by
    intro n
    induction n with
    | zero => intro i B hi hB hn9; exact absurd hn9 (Nat.not_lt_zero _)
    | succ n ih =>
      intro i B hi hB hn9 H locs ls hP hD hS hl
      refine lv_iload hx hb dX1_add_59 (lv_at hl 7 rfl) ?_
      refine lv_iload hx hb dX1_add_61 (lv_at hl 6 rfl) ?_
      refine lv_icmp_ge (tgt := 104) hx hb dX1_add_63 (by decide) (fun c1 => ?_) (fun c1 => ?_)
      · have hi8 : i = tn := lp_ge (by omega) hi c1
        refine lv_aload_n hx hb dX1_add_104 rfl (lv_at hl 0 rfl) ?_
        refine lv_dup hx hb dX1_add_105 rfl ?_
        refine va_get (D := D) (ci := 1) (v := .int (nI tn)) (C := RX1) (T := TX1) (N := 12) hx hb hts iwX1_add_X1 hown hK hP 0 rfl rfl 9 (by decide) (hts (Cond.fieldLink RX1 41 "ShareDisk$Requests" "tickets" "I") mwX1_add_0) (fun _ h9 => h9) rfl dX1_add_106 ?_
        refine lv_iconst (v := nI 1) hx hb dX1_add_109 (by decide) ?_
        refine nadd hx hb dX1_add_110 ?_
        refine va_put (D := D) (ci := 1) (v := .int (nI (tn + 1))) (ty := .int) (C := RX1) (T := TX1) (N := 12) hx hb hts iwX1_add_X1 tyX1 tyX1_ok nmX1 hown hK hP hD hS 0 rfl rfl 9 (by decide) (hts (Cond.fieldLink RX1 41 "ShareDisk$Requests" "tickets" "I") mwX1_add_0) (fun _ h9 => h9) rfl (by decide +kernel) rfl rfl (Nat.le_of_ble_eq_true rfl) dX1_add_111 (fun H locs hP hD hS => ?_)
        have hP : va_P D vwCl (RqW q k (upd ow tn (nI id)) (upd wr tn w) (upd fi tn x) (upd sz tn y) (vp_updL dl tn z) (upd wt tn (nI 1)) B sh so (tn + 1) sn un) H := hP
        have hD : va_D A (RqW q k (upd ow tn (nI id)) (upd wr tn w) (upd fi tn x) (upd sz tn y) (vp_updL dl tn z) (upd wt tn (nI 1)) B sh so (tn + 1) sn un) := hD
        refine lv_iload hx hb dX1_add_114 (lv_at hl 6 rfl) ?_
        exact retI hc dX1_add_116 hK hP hD hS (⟨rfl, by rw [hB, hi8]⟩) (Nat.le_of_ble_eq_true rfl) (Nat.le_of_ble_eq_true rfl)
      · have hi8 : i < tn := lp_lt (by omega) hi c1
        refine lv_aload_n hx hb dX1_add_66 rfl (lv_at hl 0 rfl) ?_
        refine va_get (D := D) (ci := 1) (v := .ref (q 6)) (C := RX1) (T := TX1) (N := 12) hx hb hts iwX1_add_X1 hown hK hP 0 rfl rfl 5 (by decide) (hts (Cond.fieldLink RX1 29 "ShareDisk$Requests" "waits" "[Z") mwX1_add_6) (fun _ h9 => h9) rfl dX1_add_67 ?_
        refine lv_iload hx hb dX1_add_70 (lv_at hl 7 rfl) ?_
        refine aZ hx hb hK hP 6 0 rfl rfl (ix5 (by omega)) dX1_add_72 ?_
        refine lv_if_eq (tgt := 98) hx hb dX1_add_73 (by decide) (fun c2 => ?_) (fun c2 => ?_)
        · refine lv_iinc (v := nI (i + 1)) (lv' := [(8, .int (nI (i + 1))), (0, .ref (q 0)), (1, .int (nI id)), (2, .int w), (3, .int x), (4, .int y), (5, .long z), (7, .int (nI tn))]) hx hb dX1_add_98 hl (k := 7) rfl (by rw [show Int32.ofInt 1 = nI 1 by decide, nI_add]) (by decide) rfl (fun ls hl => ?_)
          refine lv_goto (tgt := 59) hx hb dX1_add_101 (by decide) ?_
          exact ih (i + 1) _ (by omega) (by rw [hB, adB]; rw [if_pos c2]) (by omega) _ _ _ hP hD hS (lv_sub hl [1, 2, 3, 4, 5, 6, 7, 0] rfl)
        · refine lv_aload_n hx hb dX1_add_76 rfl (lv_at hl 0 rfl) ?_
          refine lv_iload hx hb dX1_add_77 (lv_at hl 7 rfl) ?_
          refine lv_iload hx hb dX1_add_79 (lv_at hl 6 rfl) ?_
          refine goVI0 hc (kX1_mustKeepOrder l D k q H.size (upd ow tn (nI id)) (upd wr tn w) (upd fi tn x) (upd sz tn y) (vp_updL dl tn z) (upd wt tn (nI 1)) B sh so tn sn un i tn (by first | assumption | omega) (by first | assumption | omega)) (cwV 2 hts gX1_add_X1_mustKeepOrder rfl rfl rfl (by decide +kernel) ⟨(Nat.le_of_ble_eq_true rfl), (Nat.le_of_ble_eq_true rfl)⟩) hP hD hK hS hA (ci := 1) (q0 := 0) rfl rfl rfl hl.1 rfl (Nat.le_of_ble_eq_true rfl) dX1_add_81 (Nat.le_of_ble_eq_true rfl) (Nat.le_of_ble_eq_true rfl) (fun r9 B9 H locs hq hP hD hS => ?_)
          obtain ⟨hr9, rfl⟩ := hq
          subst hr9
          have hP : va_P D vwCl (RqW q k (upd ow tn (nI id)) (upd wr tn w) (upd fi tn x) (upd sz tn y) (vp_updL dl tn z) (upd wt tn (nI 1)) B sh so tn sn un) H := hP
          have hD : va_D A (RqW q k (upd ow tn (nI id)) (upd wr tn w) (upd fi tn x) (upd sz tn y) (vp_updL dl tn z) (upd wt tn (nI 1)) B sh so tn sn un) := hD
          refine lv_if_eq (tgt := 98) hx hb dX1_add_84 (by decide) (fun c3 => ?_) (fun c3 => ?_)
          · refine lv_iinc (v := nI (i + 1)) (lv' := [(8, .int (nI (i + 1))), (0, .ref (q 0)), (1, .int (nI id)), (2, .int w), (3, .int x), (4, .int y), (5, .long z), (7, .int (nI tn))]) hx hb dX1_add_98 hl (k := 7) rfl (by rw [show Int32.ofInt 1 = nI 1 by decide, nI_add]) (by decide) rfl (fun ls hl => ?_)
            refine lv_goto (tgt := 59) hx hb dX1_add_101 (by decide) ?_
            exact ih (i + 1) _ (by omega) (by rw [hB, adB]; rw [if_neg c2, if_neg (bI_0 c3)]) (by omega) _ _ _ hP hD hS (lv_sub hl [1, 2, 3, 4, 5, 6, 7, 0] rfl)
          · refine lv_aload_n hx hb dX1_add_87 rfl (lv_at hl 0 rfl) ?_
            refine va_get (D := D) (ci := 1) (v := .ref (q 7)) (C := RX1) (T := TX1) (N := 12) hx hb hts iwX1_add_X1 hown hK hP 0 rfl rfl 6 (by decide) (hts (Cond.fieldLink RX1 32 "ShareDisk$Requests" "blockers" "[I") mwX1_add_7) (fun _ h9 => h9) rfl dX1_add_88 ?_
            refine lv_iload hx hb dX1_add_91 (lv_at hl 6 rfl) ?_
            refine lv_dup2_11 hx hb dX1_add_93 rfl rfl ?_
            refine aI hx hb hK hP 7 1 rfl rfl (ix5 htn) dX1_add_94 ?_
            refine lv_iconst (v := nI 1) hx hb dX1_add_95 (by decide) ?_
            refine lv_iadd hx hb dX1_add_96 ?_
            refine sI hx hb hK hP hD hS 7 1 rfl rfl (ix5 htn) dX1_add_97 (fun H locs hP hD hS => ?_)
            have hP : va_P D vwCl (RqW q k (upd ow tn (nI id)) (upd wr tn w) (upd fi tn x) (upd sz tn y) (vp_updL dl tn z) (upd wt tn (nI 1)) (upd B tn ((B tn) + (nI 1))) sh so tn sn un) H := hP
            have hD : va_D A (RqW q k (upd ow tn (nI id)) (upd wr tn w) (upd fi tn x) (upd sz tn y) (vp_updL dl tn z) (upd wt tn (nI 1)) (upd B tn ((B tn) + (nI 1))) sh so tn sn un) := hD
            refine lv_iinc (v := nI (i + 1)) (lv' := [(8, .int (nI (i + 1))), (0, .ref (q 0)), (1, .int (nI id)), (2, .int w), (3, .int x), (4, .int y), (5, .long z), (7, .int (nI tn))]) hx hb dX1_add_98 hl (k := 7) rfl (by rw [show Int32.ofInt 1 = nI 1 by decide, nI_add]) (by decide) rfl (fun ls hl => ?_)
            refine lv_goto (tgt := 59) hx hb dX1_add_101 (by decide) ?_
            exact ih (i + 1) _ (by omega) (by rw [hB, adB]; rw [if_neg c2, if_pos (bI_1 c3)]) (by omega) _ _ _ hP hD hS (lv_sub hl [1, 2, 3, 4, 5, 6, 7, 0] rfl)
  exact loop59 _ 0 bl (by omega) rfl (Nat.lt_succ_self _) _ _ _ hP hD hS (lv_sub hl [2, 3, 4, 5, 6, 7, 1, 0] rfl)
theorem mwX1_markServed_0 : Cond.fieldLink RX1 29 "ShareDisk$Requests" "waits" "[Z" ∈ wsX1_markServed := by decide +kernel
theorem mwX1_markServed_1 : Cond.fieldLink RX1 35 "ShareDisk$Requests" "servedHow" "[I" ∈ wsX1_markServed := by decide +kernel
theorem mwX1_markServed_2 : Cond.fieldLink RX1 38 "ShareDisk$Requests" "servedOrder" "[I" ∈ wsX1_markServed := by decide +kernel
theorem mwX1_markServed_3 : Cond.fieldLink RX1 45 "ShareDisk$Requests" "served" "I" ∈ wsX1_markServed := by decide +kernel
theorem mwX1_markServed_4 : Cond.fieldLink RX1 41 "ShareDisk$Requests" "tickets" "I" ∈ wsX1_markServed := by decide +kernel
theorem mwX1_markServed_5 : Cond.fieldLink RX1 32 "ShareDisk$Requests" "blockers" "[I" ∈ wsX1_markServed := by decide +kernel
theorem mwX1_markServed_6 : Cond.fieldLink RX1 48 "ShareDisk$Requests" "urgent" "I" ∈ wsX1_markServed := by decide +kernel
theorem iwX1_markServed_X1 : ∀ w ∈ wsX10, w ∈ wsX1_markServed := by decide +kernel
set_option maxHeartbeats 4000000 in
set_option maxRecDepth 100000 in
theorem kX1_markServed (l : Launch) (D : va_G) (k : Nat → ClassId) (q : Nat → Nat) (zz : Nat) (ow wr fi sz : Nat → Int32) (dl : Nat → Int64) (wt bl sh so : Nat → Int32) (tn sn un : Nat) (t : Nat) (h : Int32) (ht : t < tn) (htn : tn ≤ 500) (hsn : sn < 500) : MV l yX1_markServed wsX1_markServed ({ frames := 1, cells := 0, slots := 0, locals := 22 } : Room) D k (RqW q k ow wr fi sz dl wt bl sh so tn sn un) zz [.ref (q 0), .int (nI t), .int h] (fun w9 => w9 = RqW q k ow wr fi sz dl (upd wt t (nI 0)) (msB ow wr fi sz bl t tn) (upd sh t h) (upd so sn (nI t)) tn (sn + 1) (if h = nI 3 then un + 1 else un)) 0 0 := by
  refine bodyOf (Qc := fun A => QV D k (fun w9 => w9 = RqW q k ow wr fi sz dl (upd wt t (nI 0)) (msB ow wr fi sz bl t tn) (upd sh t h) (upd so sn (nI t)) tn (sn + 1) (if h = nI 3 then un + 1 else un)) A) (cc := cX1_markServed) (maxL := 4) (ret := none) (by decide) rfl (Nat.le_of_ble_eq_true rfl) ?_
  intro p e s m below meth c A ls hc hA hK hP hD hS hl
  obtain ⟨hx, hb, hml, hr, hts, hown, hlocks, hin⟩ := (show _ from hc)
  have hl : lv_has ls 4 [(0, .ref (q 0)), (1, .int (nI t)), (2, .int h)] := hl
  refine lv_aload_n hx hb dX1_markServed_0 rfl (lv_at hl 0 rfl) ?_
  refine va_get (D := D) (ci := 1) (v := .ref (q 6)) (C := RX1) (T := TX1) (N := 12) hx hb hts iwX1_markServed_X1 hown hK hP 0 rfl rfl 5 (by decide) (hts (Cond.fieldLink RX1 29 "ShareDisk$Requests" "waits" "[Z") mwX1_markServed_0) (fun _ h9 => h9) rfl dX1_markServed_1 ?_
  refine lv_iload_n hx hb dX1_markServed_4 rfl (lv_at hl 1 rfl) ?_
  refine lv_iconst (v := nI 0) hx hb dX1_markServed_5 (by decide) ?_
  refine sZ hx hb hK hP hD hS 6 0 rfl rfl (ix5 (by omega)) (Or.inl rfl) dX1_markServed_6 (fun H locs hP hD hS => ?_)
  have hP : va_P D vwCl (RqW q k ow wr fi sz dl (upd wt t (nI 0)) bl sh so tn sn un) H := hP
  have hD : va_D A (RqW q k ow wr fi sz dl (upd wt t (nI 0)) bl sh so tn sn un) := hD
  refine lv_aload_n hx hb dX1_markServed_7 rfl (lv_at hl 0 rfl) ?_
  refine va_get (D := D) (ci := 1) (v := .ref (q 8)) (C := RX1) (T := TX1) (N := 12) hx hb hts iwX1_markServed_X1 hown hK hP 0 rfl rfl 7 (by decide) (hts (Cond.fieldLink RX1 35 "ShareDisk$Requests" "servedHow" "[I") mwX1_markServed_1) (fun _ h9 => h9) rfl dX1_markServed_8 ?_
  refine lv_iload_n hx hb dX1_markServed_11 rfl (lv_at hl 1 rfl) ?_
  refine lv_iload_n hx hb dX1_markServed_12 rfl (lv_at hl 2 rfl) ?_
  refine sI hx hb hK hP hD hS 8 1 rfl rfl (ix5 (by omega)) dX1_markServed_13 (fun H locs hP hD hS => ?_)
  have hP : va_P D vwCl (RqW q k ow wr fi sz dl (upd wt t (nI 0)) bl (upd sh t h) so tn sn un) H := hP
  have hD : va_D A (RqW q k ow wr fi sz dl (upd wt t (nI 0)) bl (upd sh t h) so tn sn un) := hD
  refine lv_aload_n hx hb dX1_markServed_14 rfl (lv_at hl 0 rfl) ?_
  refine va_get (D := D) (ci := 1) (v := .ref (q 9)) (C := RX1) (T := TX1) (N := 12) hx hb hts iwX1_markServed_X1 hown hK hP 0 rfl rfl 8 (by decide) (hts (Cond.fieldLink RX1 38 "ShareDisk$Requests" "servedOrder" "[I") mwX1_markServed_2) (fun _ h9 => h9) rfl dX1_markServed_15 ?_
  refine lv_aload_n hx hb dX1_markServed_18 rfl (lv_at hl 0 rfl) ?_
  refine va_get (D := D) (ci := 1) (v := .int (nI sn)) (C := RX1) (T := TX1) (N := 12) hx hb hts iwX1_markServed_X1 hown hK hP 0 rfl rfl 10 (by decide) (hts (Cond.fieldLink RX1 45 "ShareDisk$Requests" "served" "I") mwX1_markServed_3) (fun _ h9 => h9) rfl dX1_markServed_19 ?_
  refine lv_iload_n hx hb dX1_markServed_22 rfl (lv_at hl 1 rfl) ?_
  refine sI hx hb hK hP hD hS 9 1 rfl rfl (ix5 hsn) dX1_markServed_23 (fun H locs hP hD hS => ?_)
  have hP : va_P D vwCl (RqW q k ow wr fi sz dl (upd wt t (nI 0)) bl (upd sh t h) (upd so sn (nI t)) tn sn un) H := hP
  have hD : va_D A (RqW q k ow wr fi sz dl (upd wt t (nI 0)) bl (upd sh t h) (upd so sn (nI t)) tn sn un) := hD
  refine lv_aload_n hx hb dX1_markServed_24 rfl (lv_at hl 0 rfl) ?_
  refine lv_dup hx hb dX1_markServed_25 rfl ?_
  refine va_get (D := D) (ci := 1) (v := .int (nI sn)) (C := RX1) (T := TX1) (N := 12) hx hb hts iwX1_markServed_X1 hown hK hP 0 rfl rfl 10 (by decide) (hts (Cond.fieldLink RX1 45 "ShareDisk$Requests" "served" "I") mwX1_markServed_3) (fun _ h9 => h9) rfl dX1_markServed_26 ?_
  refine lv_iconst (v := nI 1) hx hb dX1_markServed_29 (by decide) ?_
  refine nadd hx hb dX1_markServed_30 ?_
  refine va_put (D := D) (ci := 1) (v := .int (nI (sn + 1))) (ty := .int) (C := RX1) (T := TX1) (N := 12) hx hb hts iwX1_markServed_X1 tyX1 tyX1_ok nmX1 hown hK hP hD hS 0 rfl rfl 10 (by decide) (hts (Cond.fieldLink RX1 45 "ShareDisk$Requests" "served" "I") mwX1_markServed_3) (fun _ h9 => h9) rfl (by decide +kernel) rfl rfl (Nat.le_of_ble_eq_true rfl) dX1_markServed_31 (fun H locs hP hD hS => ?_)
  have hP : va_P D vwCl (RqW q k ow wr fi sz dl (upd wt t (nI 0)) bl (upd sh t h) (upd so sn (nI t)) tn (sn + 1) un) H := hP
  have hD : va_D A (RqW q k ow wr fi sz dl (upd wt t (nI 0)) bl (upd sh t h) (upd so sn (nI t)) tn (sn + 1) un) := hD
  have cut49 : ∀ (u : Nat) (H : Heap) (locs : List Loc) (ls : Array Slot), (u = if h = nI 3 then un + 1 else un) → va_P D vwCl (RqW q k ow wr fi sz dl (upd wt t (nI 0)) bl (upd sh t h) (upd so sn (nI t)) tn (sn + 1) u) H → va_D A (RqW q k ow wr fi sz dl (upd wt t (nI 0)) bl (upd sh t h) (upd so sn (nI t)) tn (sn + 1) u) → va_S A s.heap H locs → lv_has ls 4 [(0, .ref (q 0)), (1, .int (nI t)), (2, .int h)] → W p l e ({ frames := 1, cells := 0, slots := 0, locals := 22 } : Room) s m [.ref (q 0), .int (nI t), .int h].toArray below meth c H locs 0 0 (MQ below (QV D k (fun w9 => w9 = RqW q k ow wr fi sz dl (upd wt t (nI 0)) (msB ow wr fi sz bl t tn) (upd sh t h) (upd so sn (nI t)) tn (sn + 1) (if h = nI 3 then un + 1 else un)) A) [.ref (q 0), .int (nI t), .int h].toArray s 0 0 A) (F0 m 49 ls []) := by
    intro u H locs ls hu hP hD hS hl
    refine lv_iload_n hx hb dX1_markServed_49 rfl (lv_at hl 1 rfl) ?_
    refine lv_iconst (v := nI 1) hx hb dX1_markServed_50 (by decide) ?_
    refine nadd hx hb dX1_markServed_51 ?_
    refine lv_istore_n (lv' := [(3, .int (nI (t + 1))), (0, .ref (q 0)), (1, .int (nI t)), (2, .int h)]) hx hb dX1_markServed_52 rfl hl (by decide) rfl (fun ls hl => ?_)
    have loop53 : ∀ (n : Nat) (i : Nat) (B : Nat → Int32), (t < i) → (i ≤ tn) → (B = msB ow wr fi sz bl t i) → tn - i < n → ∀ (H : Heap) (locs : List Loc) (ls : Array Slot), va_P D vwCl (RqW q k ow wr fi sz dl (upd wt t (nI 0)) B (upd sh t h) (upd so sn (nI t)) tn (sn + 1) u) H → va_D A (RqW q k ow wr fi sz dl (upd wt t (nI 0)) B (upd sh t h) (upd so sn (nI t)) tn (sn + 1) u) → va_S A s.heap H locs → lv_has ls 4 [(0, .ref (q 0)), (1, .int (nI t)), (2, .int h), (3, .int (nI i))] → W p l e ({ frames := 1, cells := 0, slots := 0, locals := 22 } : Room) s m [.ref (q 0), .int (nI t), .int h].toArray below meth c H locs 0 0 (MQ below (QV D k (fun w9 => w9 = RqW q k ow wr fi sz dl (upd wt t (nI 0)) (msB ow wr fi sz bl t tn) (upd sh t h) (upd so sn (nI t)) tn (sn + 1) (if h = nI 3 then un + 1 else un)) A) [.ref (q 0), .int (nI t), .int h].toArray s 0 0 A) (F0 m 53 ls []) := by
      intro n
      induction n with
      | zero => intro i B hti hi hB hn9; exact absurd hn9 (Nat.not_lt_zero _)
      | succ n ih =>
        intro i B hti hi hB hn9 H locs ls hP hD hS hl
        refine lv_iload_n hx hb dX1_markServed_53 rfl (lv_at hl 3 rfl) ?_
        refine lv_aload_n hx hb dX1_markServed_54 rfl (lv_at hl 0 rfl) ?_
        refine va_get (D := D) (ci := 1) (v := .int (nI tn)) (C := RX1) (T := TX1) (N := 12) hx hb hts iwX1_markServed_X1 hown hK hP 0 rfl rfl 9 (by decide) (hts (Cond.fieldLink RX1 41 "ShareDisk$Requests" "tickets" "I") mwX1_markServed_4) (fun _ h9 => h9) rfl dX1_markServed_55 ?_
        refine lv_icmp_ge (tgt := 86) hx hb dX1_markServed_58 (by decide) (fun c1 => ?_) (fun c1 => ?_)
        · have hi8 : i = tn := lp_ge (by omega) hi c1
          exact retV hc dX1_markServed_86 hK hP hD hS (by rw [hB, hi8, hu]) (Nat.le_of_ble_eq_true rfl) (Nat.le_of_ble_eq_true rfl)
        · have hi8 : i < tn := lp_lt (by omega) hi c1
          refine lv_aload_n hx hb dX1_markServed_61 rfl (lv_at hl 0 rfl) ?_
          refine lv_iload_n hx hb dX1_markServed_62 rfl (lv_at hl 1 rfl) ?_
          refine lv_iload_n hx hb dX1_markServed_63 rfl (lv_at hl 3 rfl) ?_
          refine goVI0 hc (kX1_mustKeepOrder l D k q H.size ow wr fi sz dl (upd wt t (nI 0)) B (upd sh t h) (upd so sn (nI t)) tn (sn + 1) u t i (by first | assumption | omega) (by first | assumption | omega)) (cwV 2 hts gX1_markServed_X1_mustKeepOrder rfl rfl rfl (by decide +kernel) ⟨(Nat.le_of_ble_eq_true rfl), (Nat.le_of_ble_eq_true rfl)⟩) hP hD hK hS hA (ci := 1) (q0 := 0) rfl rfl rfl hl.1 rfl (Nat.le_of_ble_eq_true rfl) dX1_markServed_64 (Nat.le_of_ble_eq_true rfl) (Nat.le_of_ble_eq_true rfl) (fun r9 B9 H locs hq hP hD hS => ?_)
          obtain ⟨hr9, rfl⟩ := hq
          subst hr9
          have hP : va_P D vwCl (RqW q k ow wr fi sz dl (upd wt t (nI 0)) B (upd sh t h) (upd so sn (nI t)) tn (sn + 1) u) H := hP
          have hD : va_D A (RqW q k ow wr fi sz dl (upd wt t (nI 0)) B (upd sh t h) (upd so sn (nI t)) tn (sn + 1) u) := hD
          refine lv_if_eq (tgt := 80) hx hb dX1_markServed_67 (by decide) (fun c2 => ?_) (fun c2 => ?_)
          · refine lv_iinc (v := nI (i + 1)) (lv' := [(3, .int (nI (i + 1))), (0, .ref (q 0)), (1, .int (nI t)), (2, .int h)]) hx hb dX1_markServed_80 hl (k := 3) rfl (by rw [show Int32.ofInt 1 = nI 1 by decide, nI_add]) (by decide) rfl (fun ls hl => ?_)
            refine lv_goto (tgt := 53) hx hb dX1_markServed_83 (by decide) ?_
            exact ih (i + 1) _ (by omega) (by omega) (by rw [hB, msB, if_pos hti]; rw [if_neg (bI_0 c2)]) (by omega) _ _ _ hP hD hS (lv_sub hl [1, 2, 3, 0] rfl)
          · refine lv_aload_n hx hb dX1_markServed_70 rfl (lv_at hl 0 rfl) ?_
            refine va_get (D := D) (ci := 1) (v := .ref (q 7)) (C := RX1) (T := TX1) (N := 12) hx hb hts iwX1_markServed_X1 hown hK hP 0 rfl rfl 6 (by decide) (hts (Cond.fieldLink RX1 32 "ShareDisk$Requests" "blockers" "[I") mwX1_markServed_5) (fun _ h9 => h9) rfl dX1_markServed_71 ?_
            refine lv_iload_n hx hb dX1_markServed_74 rfl (lv_at hl 3 rfl) ?_
            refine lv_dup2_11 hx hb dX1_markServed_75 rfl rfl ?_
            refine aI hx hb hK hP 7 1 rfl rfl (ix5 (by omega)) dX1_markServed_76 ?_
            refine lv_iconst (v := nI 1) hx hb dX1_markServed_77 (by decide) ?_
            refine lv_isub hx hb dX1_markServed_78 ?_
            refine sI hx hb hK hP hD hS 7 1 rfl rfl (ix5 (by omega)) dX1_markServed_79 (fun H locs hP hD hS => ?_)
            have hP : va_P D vwCl (RqW q k ow wr fi sz dl (upd wt t (nI 0)) (upd B i ((B i) - (nI 1))) (upd sh t h) (upd so sn (nI t)) tn (sn + 1) u) H := hP
            have hD : va_D A (RqW q k ow wr fi sz dl (upd wt t (nI 0)) (upd B i ((B i) - (nI 1))) (upd sh t h) (upd so sn (nI t)) tn (sn + 1) u) := hD
            refine lv_iinc (v := nI (i + 1)) (lv' := [(3, .int (nI (i + 1))), (0, .ref (q 0)), (1, .int (nI t)), (2, .int h)]) hx hb dX1_markServed_80 hl (k := 3) rfl (by rw [show Int32.ofInt 1 = nI 1 by decide, nI_add]) (by decide) rfl (fun ls hl => ?_)
            refine lv_goto (tgt := 53) hx hb dX1_markServed_83 (by decide) ?_
            exact ih (i + 1) _ (by omega) (by omega) (by rw [hB, msB, if_pos hti]; rw [if_pos (bI_1 c2)]) (by omega) _ _ _ hP hD hS (lv_sub hl [1, 2, 3, 0] rfl)
    exact loop53 _ (t + 1) bl (by omega) (by omega) (msB_lo _ (Nat.le_refl _)).symm (Nat.lt_succ_self _) _ _ _ hP hD hS (lv_sub hl [1, 2, 3, 0] rfl)
  refine lv_iload_n hx hb dX1_markServed_34 rfl (lv_at hl 2 rfl) ?_
  refine lv_iconst (v := nI 3) hx hb dX1_markServed_35 (by decide) ?_
  refine lv_icmp_ne (tgt := 49) hx hb dX1_markServed_36 (by decide) (fun c3 => ?_) (fun c3 => ?_)
  · exact cut49 (un) _ _ _ (by simp [c3]) hP hD hS (lv_sub hl [0, 1, 2] rfl)
  · refine lv_aload_n hx hb dX1_markServed_39 rfl (lv_at hl 0 rfl) ?_
    refine lv_dup hx hb dX1_markServed_40 rfl ?_
    refine va_get (D := D) (ci := 1) (v := .int (nI un)) (C := RX1) (T := TX1) (N := 12) hx hb hts iwX1_markServed_X1 hown hK hP 0 rfl rfl 11 (by decide) (hts (Cond.fieldLink RX1 48 "ShareDisk$Requests" "urgent" "I") mwX1_markServed_6) (fun _ h9 => h9) rfl dX1_markServed_41 ?_
    refine lv_iconst (v := nI 1) hx hb dX1_markServed_44 (by decide) ?_
    refine nadd hx hb dX1_markServed_45 ?_
    refine va_put (D := D) (ci := 1) (v := .int (nI (un + 1))) (ty := .int) (C := RX1) (T := TX1) (N := 12) hx hb hts iwX1_markServed_X1 tyX1 tyX1_ok nmX1 hown hK hP hD hS 0 rfl rfl 11 (by decide) (hts (Cond.fieldLink RX1 48 "ShareDisk$Requests" "urgent" "I") mwX1_markServed_6) (fun _ h9 => h9) rfl (by decide +kernel) rfl rfl (Nat.le_of_ble_eq_true rfl) dX1_markServed_46 (fun H locs hP hD hS => ?_)
    have hP : va_P D vwCl (RqW q k ow wr fi sz dl (upd wt t (nI 0)) bl (upd sh t h) (upd so sn (nI t)) tn (sn + 1) (un + 1)) H := hP
    have hD : va_D A (RqW q k ow wr fi sz dl (upd wt t (nI 0)) bl (upd sh t h) (upd so sn (nI t)) tn (sn + 1) (un + 1)) := hD
    exact cut49 (un + 1) _ _ _ (by simp [c3]) hP hD hS (lv_sub hl [0, 1, 2] rfl)
theorem mwX1_mostUrgent_0 : Cond.fieldLink RX1 41 "ShareDisk$Requests" "tickets" "I" ∈ wsX1_mostUrgent := by decide +kernel
theorem mwX1_mostUrgent_1 : Cond.fieldLink RX1 25 "ShareDisk$Requests" "deadline" "[J" ∈ wsX1_mostUrgent := by decide +kernel
theorem iwX1_mostUrgent_X1 : ∀ w ∈ wsX10, w ∈ wsX1_mostUrgent := by decide +kernel
set_option maxHeartbeats 4000000 in
set_option maxRecDepth 100000 in
theorem kX1_mostUrgent (l : Launch) (D : va_G) (k : Nat → ClassId) (q : Nat → Nat) (zz : Nat) (ow wr fi sz : Nat → Int32) (dl : Nat → Int64) (wt bl sh so : Nat → Int32) (tn sn un : Nat) (x : Int64) (htn : tn ≤ 500) : MI l yX1_mostUrgent wsX1_mostUrgent ({ frames := 1, cells := 0, slots := 0, locals := 21 } : Room) D k (RqW q k ow wr fi sz dl wt bl sh so tn sn un) zz [.ref (q 0), .long x] (fun r9 w9 => r9 = (oI (muF wt bl sh dl x tn)) ∧ w9 = RqW q k ow wr fi sz dl wt bl sh so tn sn un) 0 0 := by
  refine bodyOf (Qc := fun A => QI D k (fun r9 w9 => r9 = (oI (muF wt bl sh dl x tn)) ∧ w9 = RqW q k ow wr fi sz dl wt bl sh so tn sn un) A) (cc := cX1_mostUrgent) (maxL := 5) (ret := (some .int)) (by decide) rfl (Nat.le_of_ble_eq_true rfl) ?_
  intro p e s m below meth c A ls hc hA hK hP hD hS hl
  obtain ⟨hx, hb, hml, hr, hts, hown, hlocks, hin⟩ := (show _ from hc)
  have hl : lv_has ls 5 [(0, .ref (q 0)), (1, .long x)] := hl
  refine lv_iconst (v := (-1)) hx hb dX1_mostUrgent_0 (by decide) ?_
  refine lv_istore_n (lv' := [(3, .int (-1)), (0, .ref (q 0)), (1, .long x)]) hx hb dX1_mostUrgent_1 rfl hl (by decide) rfl (fun ls hl => ?_)
  refine lv_iconst (v := nI 0) hx hb dX1_mostUrgent_2 (by decide) ?_
  refine lv_istore (lv' := [(4, .int (nI 0)), (3, .int (-1)), (0, .ref (q 0)), (1, .long x)]) hx hb dX1_mostUrgent_3 hl (by decide) rfl (fun ls hl => ?_)
  have loop5 : ∀ (n : Nat) (i : Nat) (bt : Option Nat), (i ≤ tn) → (∀ j, bt = some j → j < tn) → (bt = muF wt bl sh dl x i) → tn - i < n → ∀ (H : Heap) (locs : List Loc) (ls : Array Slot), va_P D vwCl (RqW q k ow wr fi sz dl wt bl sh so tn sn un) H → va_D A (RqW q k ow wr fi sz dl wt bl sh so tn sn un) → va_S A s.heap H locs → lv_has ls 5 [(0, .ref (q 0)), (1, .long x), (3, .int (oI bt)), (4, .int (nI i))] → W p l e ({ frames := 1, cells := 0, slots := 0, locals := 21 } : Room) s m [.ref (q 0), .long x].toArray below meth c H locs 0 0 (MQ below (QI D k (fun r9 w9 => r9 = (oI (muF wt bl sh dl x tn)) ∧ w9 = RqW q k ow wr fi sz dl wt bl sh so tn sn un) A) [.ref (q 0), .long x].toArray s 0 0 A) (F0 m 5 ls []) := by
    intro n
    induction n with
    | zero => intro i bt hi hj hbt hn9; exact absurd hn9 (Nat.not_lt_zero _)
    | succ n ih =>
      intro i bt hi hj hbt hn9 H locs ls hP hD hS hl
      refine lv_iload hx hb dX1_mostUrgent_5 (lv_at hl 3 rfl) ?_
      refine lv_aload_n hx hb dX1_mostUrgent_7 rfl (lv_at hl 0 rfl) ?_
      refine va_get (D := D) (ci := 1) (v := .int (nI tn)) (C := RX1) (T := TX1) (N := 12) hx hb hts iwX1_mostUrgent_X1 hown hK hP 0 rfl rfl 9 (by decide) (hts (Cond.fieldLink RX1 41 "ShareDisk$Requests" "tickets" "I") mwX1_mostUrgent_0) (fun _ h9 => h9) rfl dX1_mostUrgent_8 ?_
      refine lv_icmp_ge (tgt := 67) hx hb dX1_mostUrgent_11 (by decide) (fun c1 => ?_) (fun c1 => ?_)
      · have hi8 : i = tn := lp_ge (by omega) hi c1
        refine lv_iload_n hx hb dX1_mostUrgent_67 rfl (lv_at hl 2 rfl) ?_
        exact retI hc dX1_mostUrgent_68 hK hP hD hS (⟨by rw [hbt, hi8], rfl⟩) (Nat.le_of_ble_eq_true rfl) (Nat.le_of_ble_eq_true rfl)
      · have hi8 : i < tn := lp_lt (by omega) hi c1
        refine lv_aload_n hx hb dX1_mostUrgent_14 rfl (lv_at hl 0 rfl) ?_
        refine lv_iload hx hb dX1_mostUrgent_15 (lv_at hl 3 rfl) ?_
        refine goVI0 hc (kX1_stateOf l D k q H.size ow wr fi sz dl wt bl sh so tn sn un i (by first | omega | (have := hj j rfl; omega))) (cwV 1 hts gX1_mostUrgent_X1_stateOf rfl rfl rfl (by decide +kernel) ⟨(Nat.le_of_ble_eq_true rfl), (Nat.le_of_ble_eq_true rfl)⟩) hP hD hK hS hA (ci := 1) (q0 := 0) rfl rfl rfl hl.1 rfl (Nat.le_of_ble_eq_true rfl) dX1_mostUrgent_17 (Nat.le_of_ble_eq_true rfl) (Nat.le_of_ble_eq_true rfl) (fun r9 B9 H locs hq hP hD hS => ?_)
        obtain ⟨hr9, rfl⟩ := hq
        subst hr9
        have hP : va_P D vwCl (RqW q k ow wr fi sz dl wt bl sh so tn sn un) H := hP
        have hD : va_D A (RqW q k ow wr fi sz dl wt bl sh so tn sn un) := hD
        refine lv_iconst (v := nI 1) hx hb dX1_mostUrgent_20 (by decide) ?_
        refine lv_icmp_ne (tgt := 61) hx hb dX1_mostUrgent_21 (by decide) (fun c2 => ?_) (fun c2 => ?_)
        · refine lv_iinc (v := nI (i + 1)) (lv' := [(4, .int (nI (i + 1))), (0, .ref (q 0)), (1, .long x), (3, .int (oI bt))]) hx hb dX1_mostUrgent_61 hl (k := 3) rfl (by rw [show Int32.ofInt 1 = nI 1 by decide, nI_add]) (by decide) rfl (fun ls hl => ?_)
          refine lv_goto (tgt := 5) hx hb dX1_mostUrgent_64 (by decide) ?_
          exact ih (i + 1) bt (by omega) hj (by rw [hbt]; simp [muF, c2]) (by omega) _ _ _ hP hD hS (lv_sub hl [1, 2, 3, 0] rfl)
        · refine lv_aload_n hx hb dX1_mostUrgent_24 rfl (lv_at hl 0 rfl) ?_
          refine va_get (D := D) (ci := 1) (v := .ref (q 5)) (C := RX1) (T := TX1) (N := 12) hx hb hts iwX1_mostUrgent_X1 hown hK hP 0 rfl rfl 4 (by decide) (hts (Cond.fieldLink RX1 25 "ShareDisk$Requests" "deadline" "[J") mwX1_mostUrgent_1) (fun _ h9 => h9) rfl dX1_mostUrgent_25 ?_
          refine lv_iload hx hb dX1_mostUrgent_28 (lv_at hl 3 rfl) ?_
          refine aJ hx hb hK hP 5 2 rfl rfl (ix5 (by omega)) dX1_mostUrgent_30 ?_
          refine lv_lload_n hx hb dX1_mostUrgent_31 rfl (lv_at hl 1 rfl) ?_
          refine W.lcmp hx hb dX1_mostUrgent_32 ?_
          refine lv_if_gt (tgt := 61) hx hb dX1_mostUrgent_33 (by decide) (fun c3 => ?_) (fun c3 => ?_)
          · rw [lg_cmp_gt] at c3
            refine lv_iinc (v := nI (i + 1)) (lv' := [(4, .int (nI (i + 1))), (0, .ref (q 0)), (1, .long x), (3, .int (oI bt))]) hx hb dX1_mostUrgent_61 hl (k := 3) rfl (by rw [show Int32.ofInt 1 = nI 1 by decide, nI_add]) (by decide) rfl (fun ls hl => ?_)
            refine lv_goto (tgt := 5) hx hb dX1_mostUrgent_64 (by decide) ?_
            exact ih (i + 1) bt (by omega) hj (by rw [hbt]; simp [muF, c2, c3]) (by omega) _ _ _ hP hD hS (lv_sub hl [1, 2, 3, 0] rfl)
          · rw [lg_cmp_gt] at c3
            rcases bt with _ | j
            · have hl : lv_has ls 5 [(0, .ref (q 0)), (1, .long x), (3, .int (-1)), (4, .int (nI i))] := hl
              refine lv_iload_n hx hb dX1_mostUrgent_36 rfl (lv_at hl 2 rfl) ?_
              refine lv_iconst (v := (-1)) hx hb dX1_mostUrgent_37 (by decide) ?_
              refine lv_icmp_eq (tgt := 58) hx hb dX1_mostUrgent_38 (by decide) (fun c4 => ?_) (fun c4 => False.elim (c4 rfl))
              refine lv_iload hx hb dX1_mostUrgent_58 (lv_at hl 3 rfl) ?_
              refine lv_istore_n (lv' := [(3, .int (nI i)), (0, .ref (q 0)), (1, .long x), (4, .int (nI i))]) hx hb dX1_mostUrgent_60 rfl hl (by decide) rfl (fun ls hl => ?_)
              refine lv_iinc (v := nI (i + 1)) (lv' := [(4, .int (nI (i + 1))), (3, .int (nI i)), (0, .ref (q 0)), (1, .long x)]) hx hb dX1_mostUrgent_61 hl (k := 3) rfl (by rw [show Int32.ofInt 1 = nI 1 by decide, nI_add]) (by decide) rfl (fun ls hl => ?_)
              refine lv_goto (tgt := 5) hx hb dX1_mostUrgent_64 (by decide) ?_
              exact ih (i + 1) (some i) (by omega) (fun j h => by cases h; omega) (by simp [muF, ← hbt, c2, c3]) (by omega) _ _ _ hP hD hS (lv_sub hl [2, 3, 1, 0] rfl)
            · have hl : lv_has ls 5 [(0, .ref (q 0)), (1, .long x), (3, .int (nI j)), (4, .int (nI i))] := hl
              refine lv_iload_n hx hb dX1_mostUrgent_36 rfl (lv_at hl 2 rfl) ?_
              refine lv_iconst (v := (-1)) hx hb dX1_mostUrgent_37 (by decide) ?_
              refine lv_icmp_eq (tgt := 58) hx hb dX1_mostUrgent_38 (by decide) (fun c5 => False.elim (nI_ne_m1 (show j < 2 ^ 31 by have := hj j rfl; omega) c5)) (fun c5 => ?_)
              refine lv_aload_n hx hb dX1_mostUrgent_41 rfl (lv_at hl 0 rfl) ?_
              refine va_get (D := D) (ci := 1) (v := .ref (q 5)) (C := RX1) (T := TX1) (N := 12) hx hb hts iwX1_mostUrgent_X1 hown hK hP 0 rfl rfl 4 (by decide) (hts (Cond.fieldLink RX1 25 "ShareDisk$Requests" "deadline" "[J") mwX1_mostUrgent_1) (fun _ h9 => h9) rfl dX1_mostUrgent_42 ?_
              refine lv_iload hx hb dX1_mostUrgent_45 (lv_at hl 3 rfl) ?_
              refine aJ hx hb hK hP 5 2 rfl rfl (ix5 (by omega)) dX1_mostUrgent_47 ?_
              refine lv_aload_n hx hb dX1_mostUrgent_48 rfl (lv_at hl 0 rfl) ?_
              refine va_get (D := D) (ci := 1) (v := .ref (q 5)) (C := RX1) (T := TX1) (N := 12) hx hb hts iwX1_mostUrgent_X1 hown hK hP 0 rfl rfl 4 (by decide) (hts (Cond.fieldLink RX1 25 "ShareDisk$Requests" "deadline" "[J") mwX1_mostUrgent_1) (fun _ h9 => h9) rfl dX1_mostUrgent_49 ?_
              refine lv_iload_n hx hb dX1_mostUrgent_52 rfl (lv_at hl 2 rfl) ?_
              refine aJ hx hb hK hP 5 2 rfl rfl (ix5 (by have := hj j rfl; omega)) dX1_mostUrgent_53 ?_
              refine W.lcmp hx hb dX1_mostUrgent_54 ?_
              refine lv_if_ge (tgt := 61) hx hb dX1_mostUrgent_55 (by decide) (fun c6 => ?_) (fun c6 => ?_)
              · rw [lg_cmp_ge] at c6
                refine lv_iinc (v := nI (i + 1)) (lv' := [(4, .int (nI (i + 1))), (0, .ref (q 0)), (1, .long x), (3, .int (nI j))]) hx hb dX1_mostUrgent_61 hl (k := 3) rfl (by rw [show Int32.ofInt 1 = nI 1 by decide, nI_add]) (by decide) rfl (fun ls hl => ?_)
                refine lv_goto (tgt := 5) hx hb dX1_mostUrgent_64 (by decide) ?_
                exact ih (i + 1) (some j) (by omega) hj (by simp [muF, ← hbt, c2, c3, c6]) (by omega) _ _ _ hP hD hS (lv_sub hl [1, 2, 3, 0] rfl)
              · rw [lg_cmp_ge] at c6
                refine lv_iload hx hb dX1_mostUrgent_58 (lv_at hl 3 rfl) ?_
                refine lv_istore_n (lv' := [(3, .int (nI i)), (0, .ref (q 0)), (1, .long x), (4, .int (nI i))]) hx hb dX1_mostUrgent_60 rfl hl (by decide) rfl (fun ls hl => ?_)
                refine lv_iinc (v := nI (i + 1)) (lv' := [(4, .int (nI (i + 1))), (3, .int (nI i)), (0, .ref (q 0)), (1, .long x)]) hx hb dX1_mostUrgent_61 hl (k := 3) rfl (by rw [show Int32.ofInt 1 = nI 1 by decide, nI_add]) (by decide) rfl (fun ls hl => ?_)
                refine lv_goto (tgt := 5) hx hb dX1_mostUrgent_64 (by decide) ?_
                exact ih (i + 1) (some i) (by omega) (fun j h => by cases h; omega) (by simp [muF, ← hbt, c2, c3, c6]) (by omega) _ _ _ hP hD hS (lv_sub hl [2, 3, 1, 0] rfl)
  exact loop5 _ 0 none (by omega) (fun j h => by cases h) rfl (Nat.lt_succ_self _) s.heap _ _ hP hD hS (lv_sub hl [2, 3, 1, 0] rfl)
theorem mwX1_turnOf_0 : Cond.fieldLink RX1 19 "ShareDisk$Requests" "first" "[I" ∈ wsX1_turnOf := by decide +kernel
theorem mwX1_turnOf_1 : Cond.constant RX1 63 (100000) ∈ wsX1_turnOf := by decide +kernel
theorem iwX1_turnOf_X1 : ∀ w ∈ wsX10, w ∈ wsX1_turnOf := by decide +kernel
set_option maxHeartbeats 4000000 in
set_option maxRecDepth 100000 in
theorem kX1_turnOf (l : Launch) (D : va_G) (k : Nat → ClassId) (q : Nat → Nat) (zz : Nat) (ow wr fi sz : Nat → Int32) (dl : Nat → Int64) (wt bl sh so : Nat → Int32) (tn sn un : Nat) (t : Nat) (x : Int32) (ht : t < 500) : MI l yX1_turnOf wsX1_turnOf ({ frames := 0, cells := 0, slots := 0, locals := 0 } : Room) D k (RqW q k ow wr fi sz dl wt bl sh so tn sn un) zz [.ref (q 0), .int (nI t), .int x] (fun r9 w9 => r9 = (tuF fi x t) ∧ w9 = RqW q k ow wr fi sz dl wt bl sh so tn sn un) 0 0 := by
  refine bodyOf (Qc := fun A => QI D k (fun r9 w9 => r9 = (tuF fi x t) ∧ w9 = RqW q k ow wr fi sz dl wt bl sh so tn sn un) A) (cc := cX1_turnOf) (maxL := 3) (ret := (some .int)) (by decide) rfl (Nat.le_of_ble_eq_true rfl) ?_
  intro p e s m below meth c A ls hc hA hK hP hD hS hl
  obtain ⟨hx, hb, hml, hr, hts, hown, hlocks, hin⟩ := (show _ from hc)
  have hl : lv_has ls 3 [(0, .ref (q 0)), (1, .int (nI t)), (2, .int x)] := hl
  refine lv_aload_n hx hb dX1_turnOf_0 rfl (lv_at hl 0 rfl) ?_
  refine va_get (D := D) (ci := 1) (v := .ref (q 3)) (C := RX1) (T := TX1) (N := 12) hx hb hts iwX1_turnOf_X1 hown hK hP 0 rfl rfl 2 (by decide) (hts (Cond.fieldLink RX1 19 "ShareDisk$Requests" "first" "[I") mwX1_turnOf_0) (fun _ h9 => h9) rfl dX1_turnOf_1 ?_
  refine lv_iload_n hx hb dX1_turnOf_4 rfl (lv_at hl 1 rfl) ?_
  refine aI hx hb hK hP 3 1 rfl rfl (ix5 ht) dX1_turnOf_5 ?_
  refine lv_iload_n hx hb dX1_turnOf_6 rfl (lv_at hl 2 rfl) ?_
  refine lv_icmp_lt (tgt := 19) hx hb dX1_turnOf_7 (by decide) (fun c1 => ?_) (fun c1 => ?_)
  · refine lv_aload_n hx hb dX1_turnOf_19 rfl (lv_at hl 0 rfl) ?_
    refine va_get (D := D) (ci := 1) (v := .ref (q 3)) (C := RX1) (T := TX1) (N := 12) hx hb hts iwX1_turnOf_X1 hown hK hP 0 rfl rfl 2 (by decide) (hts (Cond.fieldLink RX1 19 "ShareDisk$Requests" "first" "[I") mwX1_turnOf_0) (fun _ h9 => h9) rfl dX1_turnOf_20 ?_
    refine lv_iload_n hx hb dX1_turnOf_23 rfl (lv_at hl 1 rfl) ?_
    refine aI hx hb hK hP 3 1 rfl rfl (ix5 ht) dX1_turnOf_24 ?_
    refine lv_ldc (v := nI 100000) hx hb hown (hts (.constant RX1 63 (100000)) mwX1_turnOf_1) dX1_turnOf_25 ?_
    refine lv_iadd hx hb dX1_turnOf_27 ?_
    exact retI hc dX1_turnOf_28 hK hP hD hS (⟨by simp [tuF, c1], rfl⟩) (Nat.le_of_ble_eq_true rfl) (Nat.le_of_ble_eq_true rfl)
  · refine lv_aload_n hx hb dX1_turnOf_10 rfl (lv_at hl 0 rfl) ?_
    refine va_get (D := D) (ci := 1) (v := .ref (q 3)) (C := RX1) (T := TX1) (N := 12) hx hb hts iwX1_turnOf_X1 hown hK hP 0 rfl rfl 2 (by decide) (hts (Cond.fieldLink RX1 19 "ShareDisk$Requests" "first" "[I") mwX1_turnOf_0) (fun _ h9 => h9) rfl dX1_turnOf_11 ?_
    refine lv_iload_n hx hb dX1_turnOf_14 rfl (lv_at hl 1 rfl) ?_
    refine aI hx hb hK hP 3 1 rfl rfl (ix5 ht) dX1_turnOf_15 ?_
    refine lv_goto (tgt := 28) hx hb dX1_turnOf_16 (by decide) ?_
    exact retI hc dX1_turnOf_28 hK hP hD hS (⟨by simp [tuF, c1], rfl⟩) (Nat.le_of_ble_eq_true rfl) (Nat.le_of_ble_eq_true rfl)
theorem mwX1_nextAlong_0 : Cond.fieldLink RX1 41 "ShareDisk$Requests" "tickets" "I" ∈ wsX1_nextAlong := by decide +kernel
theorem mwX1_nextAlong_1 : Cond.fieldLink RX1 9 "ShareDisk$Requests" "owner" "[I" ∈ wsX1_nextAlong := by decide +kernel
theorem iwX1_nextAlong_X1 : ∀ w ∈ wsX10, w ∈ wsX1_nextAlong := by decide +kernel
set_option maxHeartbeats 4000000 in
set_option maxRecDepth 100000 in
theorem kX1_nextAlong (l : Launch) (D : va_G) (k : Nat → ClassId) (q : Nat → Nat) (zz : Nat) (ow wr fi sz : Nat → Int32) (dl : Nat → Int64) (wt bl sh so : Nat → Int32) (tn sn un : Nat) (o : Int32) (x : Int32) (htn : tn ≤ 500) : MI l yX1_nextAlong wsX1_nextAlong ({ frames := 1, cells := 0, slots := 0, locals := 22 } : Room) D k (RqW q k ow wr fi sz dl wt bl sh so tn sn un) zz [.ref (q 0), .int o, .int x] (fun r9 w9 => r9 = (oI (naF ow fi wt bl sh o x tn)) ∧ w9 = RqW q k ow wr fi sz dl wt bl sh so tn sn un) 0 0 := by
  refine bodyOf (Qc := fun A => QI D k (fun r9 w9 => r9 = (oI (naF ow fi wt bl sh o x tn)) ∧ w9 = RqW q k ow wr fi sz dl wt bl sh so tn sn un) A) (cc := cX1_nextAlong) (maxL := 5) (ret := (some .int)) (by decide) rfl (Nat.le_of_ble_eq_true rfl) ?_
  intro p e s m below meth c A ls hc hA hK hP hD hS hl
  obtain ⟨hx, hb, hml, hr, hts, hown, hlocks, hin⟩ := (show _ from hc)
  have hl : lv_has ls 5 [(0, .ref (q 0)), (1, .int o), (2, .int x)] := hl
  refine lv_iconst (v := (-1)) hx hb dX1_nextAlong_0 (by decide) ?_
  refine lv_istore_n (lv' := [(3, .int (-1)), (0, .ref (q 0)), (1, .int o), (2, .int x)]) hx hb dX1_nextAlong_1 rfl hl (by decide) rfl (fun ls hl => ?_)
  refine lv_iconst (v := nI 0) hx hb dX1_nextAlong_2 (by decide) ?_
  refine lv_istore (lv' := [(4, .int (nI 0)), (3, .int (-1)), (0, .ref (q 0)), (1, .int o), (2, .int x)]) hx hb dX1_nextAlong_3 hl (by decide) rfl (fun ls hl => ?_)
  have loop5 : ∀ (n : Nat) (i : Nat) (bt : Option Nat), (i ≤ tn) → (∀ j, bt = some j → j < tn) → (bt = naF ow fi wt bl sh o x i) → tn - i < n → ∀ (H : Heap) (locs : List Loc) (ls : Array Slot), va_P D vwCl (RqW q k ow wr fi sz dl wt bl sh so tn sn un) H → va_D A (RqW q k ow wr fi sz dl wt bl sh so tn sn un) → va_S A s.heap H locs → lv_has ls 5 [(0, .ref (q 0)), (1, .int o), (2, .int x), (3, .int (oI bt)), (4, .int (nI i))] → W p l e ({ frames := 1, cells := 0, slots := 0, locals := 22 } : Room) s m [.ref (q 0), .int o, .int x].toArray below meth c H locs 0 0 (MQ below (QI D k (fun r9 w9 => r9 = (oI (naF ow fi wt bl sh o x tn)) ∧ w9 = RqW q k ow wr fi sz dl wt bl sh so tn sn un) A) [.ref (q 0), .int o, .int x].toArray s 0 0 A) (F0 m 5 ls []) := by
    intro n
    induction n with
    | zero => intro i bt hi hj hbt hn9; exact absurd hn9 (Nat.not_lt_zero _)
    | succ n ih =>
      intro i bt hi hj hbt hn9 H locs ls hP hD hS hl
      refine lv_iload hx hb dX1_nextAlong_5 (lv_at hl 4 rfl) ?_
      refine lv_aload_n hx hb dX1_nextAlong_7 rfl (lv_at hl 0 rfl) ?_
      refine va_get (D := D) (ci := 1) (v := .int (nI tn)) (C := RX1) (T := TX1) (N := 12) hx hb hts iwX1_nextAlong_X1 hown hK hP 0 rfl rfl 9 (by decide) (hts (Cond.fieldLink RX1 41 "ShareDisk$Requests" "tickets" "I") mwX1_nextAlong_0) (fun _ h9 => h9) rfl dX1_nextAlong_8 ?_
      refine lv_icmp_ge (tgt := 65) hx hb dX1_nextAlong_11 (by decide) (fun c1 => ?_) (fun c1 => ?_)
      · have hi8 : i = tn := lp_ge (by omega) hi c1
        refine lv_iload_n hx hb dX1_nextAlong_65 rfl (lv_at hl 3 rfl) ?_
        exact retI hc dX1_nextAlong_66 hK hP hD hS (⟨by rw [hbt, hi8], rfl⟩) (Nat.le_of_ble_eq_true rfl) (Nat.le_of_ble_eq_true rfl)
      · have hi8 : i < tn := lp_lt (by omega) hi c1
        refine lv_aload_n hx hb dX1_nextAlong_14 rfl (lv_at hl 0 rfl) ?_
        refine lv_iload hx hb dX1_nextAlong_15 (lv_at hl 4 rfl) ?_
        refine goVI0 hc (kX1_stateOf l D k q H.size ow wr fi sz dl wt bl sh so tn sn un i (by first | omega | (have := hj j rfl; omega))) (cwV 1 hts gX1_nextAlong_X1_stateOf rfl rfl rfl (by decide +kernel) ⟨(Nat.le_of_ble_eq_true rfl), (Nat.le_of_ble_eq_true rfl)⟩) hP hD hK hS hA (ci := 1) (q0 := 0) rfl rfl rfl hl.1 rfl (Nat.le_of_ble_eq_true rfl) dX1_nextAlong_17 (Nat.le_of_ble_eq_true rfl) (Nat.le_of_ble_eq_true rfl) (fun r9 B9 H locs hq hP hD hS => ?_)
        obtain ⟨hr9, rfl⟩ := hq
        subst hr9
        have hP : va_P D vwCl (RqW q k ow wr fi sz dl wt bl sh so tn sn un) H := hP
        have hD : va_D A (RqW q k ow wr fi sz dl wt bl sh so tn sn un) := hD
        refine lv_iconst (v := nI 1) hx hb dX1_nextAlong_20 (by decide) ?_
        refine lv_icmp_ne (tgt := 59) hx hb dX1_nextAlong_21 (by decide) (fun c2 => ?_) (fun c2 => ?_)
        · refine lv_iinc (v := nI (i + 1)) (lv' := [(4, .int (nI (i + 1))), (0, .ref (q 0)), (1, .int o), (2, .int x), (3, .int (oI bt))]) hx hb dX1_nextAlong_59 hl (k := 4) rfl (by rw [show Int32.ofInt 1 = nI 1 by decide, nI_add]) (by decide) rfl (fun ls hl => ?_)
          refine lv_goto (tgt := 5) hx hb dX1_nextAlong_62 (by decide) ?_
          exact ih (i + 1) bt (by omega) hj (by rw [hbt]; simp [naF, c2]) (by omega) _ _ _ hP hD hS (lv_sub hl [1, 2, 3, 4, 0] rfl)
        · refine lv_aload_n hx hb dX1_nextAlong_24 rfl (lv_at hl 0 rfl) ?_
          refine va_get (D := D) (ci := 1) (v := .ref (q 1)) (C := RX1) (T := TX1) (N := 12) hx hb hts iwX1_nextAlong_X1 hown hK hP 0 rfl rfl 0 (by decide) (hts (Cond.fieldLink RX1 9 "ShareDisk$Requests" "owner" "[I") mwX1_nextAlong_1) (fun _ h9 => h9) rfl dX1_nextAlong_25 ?_
          refine lv_iload hx hb dX1_nextAlong_28 (lv_at hl 4 rfl) ?_
          refine aI hx hb hK hP 1 1 rfl rfl (ix5 (by omega)) dX1_nextAlong_30 ?_
          refine lv_iload_n hx hb dX1_nextAlong_31 rfl (lv_at hl 1 rfl) ?_
          refine lv_icmp_ne (tgt := 59) hx hb dX1_nextAlong_32 (by decide) (fun c3 => ?_) (fun c3 => ?_)
          · refine lv_iinc (v := nI (i + 1)) (lv' := [(4, .int (nI (i + 1))), (0, .ref (q 0)), (1, .int o), (2, .int x), (3, .int (oI bt))]) hx hb dX1_nextAlong_59 hl (k := 4) rfl (by rw [show Int32.ofInt 1 = nI 1 by decide, nI_add]) (by decide) rfl (fun ls hl => ?_)
            refine lv_goto (tgt := 5) hx hb dX1_nextAlong_62 (by decide) ?_
            exact ih (i + 1) bt (by omega) hj (by rw [hbt]; simp [naF, c2, c3]) (by omega) _ _ _ hP hD hS (lv_sub hl [1, 2, 3, 4, 0] rfl)
          · rcases bt with _ | j
            · have hl : lv_has ls 5 [(0, .ref (q 0)), (1, .int o), (2, .int x), (3, .int (-1)), (4, .int (nI i))] := hl
              refine lv_iload_n hx hb dX1_nextAlong_35 rfl (lv_at hl 3 rfl) ?_
              refine lv_iconst (v := (-1)) hx hb dX1_nextAlong_36 (by decide) ?_
              refine lv_icmp_eq (tgt := 56) hx hb dX1_nextAlong_37 (by decide) (fun c4 => ?_) (fun c4 => False.elim (c4 rfl))
              refine lv_iload hx hb dX1_nextAlong_56 (lv_at hl 4 rfl) ?_
              refine lv_istore_n (lv' := [(3, .int (nI i)), (0, .ref (q 0)), (1, .int o), (2, .int x), (4, .int (nI i))]) hx hb dX1_nextAlong_58 rfl hl (by decide) rfl (fun ls hl => ?_)
              refine lv_iinc (v := nI (i + 1)) (lv' := [(4, .int (nI (i + 1))), (3, .int (nI i)), (0, .ref (q 0)), (1, .int o), (2, .int x)]) hx hb dX1_nextAlong_59 hl (k := 4) rfl (by rw [show Int32.ofInt 1 = nI 1 by decide, nI_add]) (by decide) rfl (fun ls hl => ?_)
              refine lv_goto (tgt := 5) hx hb dX1_nextAlong_62 (by decide) ?_
              exact ih (i + 1) (some i) (by omega) (fun j h => by cases h; omega) (by simp [naF, ← hbt, c2, c3]) (by omega) _ _ _ hP hD hS (lv_sub hl [2, 3, 4, 1, 0] rfl)
            · have hl : lv_has ls 5 [(0, .ref (q 0)), (1, .int o), (2, .int x), (3, .int (nI j)), (4, .int (nI i))] := hl
              refine lv_iload_n hx hb dX1_nextAlong_35 rfl (lv_at hl 3 rfl) ?_
              refine lv_iconst (v := (-1)) hx hb dX1_nextAlong_36 (by decide) ?_
              refine lv_icmp_eq (tgt := 56) hx hb dX1_nextAlong_37 (by decide) (fun c5 => False.elim (nI_ne_m1 (show j < 2 ^ 31 by have := hj j rfl; omega) c5)) (fun c5 => ?_)
              refine lv_aload_n hx hb dX1_nextAlong_40 rfl (lv_at hl 0 rfl) ?_
              refine lv_iload hx hb dX1_nextAlong_41 (lv_at hl 4 rfl) ?_
              refine lv_iload_n hx hb dX1_nextAlong_43 rfl (lv_at hl 2 rfl) ?_
              refine goVI0 hc (kX1_turnOf l D k q H.size ow wr fi sz dl wt bl sh so tn sn un i x (by first | omega | (have := hj j rfl; omega))) (cwV 2 hts gX1_nextAlong_X1_turnOf rfl rfl rfl (by decide +kernel) ⟨(Nat.le_of_ble_eq_true rfl), (Nat.le_of_ble_eq_true rfl)⟩) hP hD hK hS hA (ci := 1) (q0 := 0) rfl rfl rfl hl.1 rfl (Nat.le_of_ble_eq_true rfl) dX1_nextAlong_44 (Nat.le_of_ble_eq_true rfl) (Nat.le_of_ble_eq_true rfl) (fun r9 B9 H locs hq hP hD hS => ?_)
              obtain ⟨hr9, rfl⟩ := hq
              subst hr9
              have hP : va_P D vwCl (RqW q k ow wr fi sz dl wt bl sh so tn sn un) H := hP
              have hD : va_D A (RqW q k ow wr fi sz dl wt bl sh so tn sn un) := hD
              refine lv_aload_n hx hb dX1_nextAlong_47 rfl (lv_at hl 0 rfl) ?_
              refine lv_iload_n hx hb dX1_nextAlong_48 rfl (lv_at hl 3 rfl) ?_
              refine lv_iload_n hx hb dX1_nextAlong_49 rfl (lv_at hl 2 rfl) ?_
              refine goVI0 hc (kX1_turnOf l D k q H.size ow wr fi sz dl wt bl sh so tn sn un j x (by first | omega | (have := hj j rfl; omega))) (cwV 2 hts gX1_nextAlong_X1_turnOf rfl rfl rfl (by decide +kernel) ⟨(Nat.le_of_ble_eq_true rfl), (Nat.le_of_ble_eq_true rfl)⟩) hP hD hK hS hA (ci := 1) (q0 := 0) rfl rfl rfl hl.1 rfl (Nat.le_of_ble_eq_true rfl) dX1_nextAlong_50 (Nat.le_of_ble_eq_true rfl) (Nat.le_of_ble_eq_true rfl) (fun r9 B9 H locs hq hP hD hS => ?_)
              obtain ⟨hr9, rfl⟩ := hq
              subst hr9
              have hP : va_P D vwCl (RqW q k ow wr fi sz dl wt bl sh so tn sn un) H := hP
              have hD : va_D A (RqW q k ow wr fi sz dl wt bl sh so tn sn un) := hD
              refine lv_icmp_ge (tgt := 59) hx hb dX1_nextAlong_53 (by decide) (fun c6 => ?_) (fun c6 => ?_)
              · refine lv_iinc (v := nI (i + 1)) (lv' := [(4, .int (nI (i + 1))), (0, .ref (q 0)), (1, .int o), (2, .int x), (3, .int (nI j))]) hx hb dX1_nextAlong_59 hl (k := 4) rfl (by rw [show Int32.ofInt 1 = nI 1 by decide, nI_add]) (by decide) rfl (fun ls hl => ?_)
                refine lv_goto (tgt := 5) hx hb dX1_nextAlong_62 (by decide) ?_
                exact ih (i + 1) (some j) (by omega) hj (by simp [naF, ← hbt, c2, c3, c6]) (by omega) _ _ _ hP hD hS (lv_sub hl [1, 2, 3, 4, 0] rfl)
              · refine lv_iload hx hb dX1_nextAlong_56 (lv_at hl 4 rfl) ?_
                refine lv_istore_n (lv' := [(3, .int (nI i)), (0, .ref (q 0)), (1, .int o), (2, .int x), (4, .int (nI i))]) hx hb dX1_nextAlong_58 rfl hl (by decide) rfl (fun ls hl => ?_)
                refine lv_iinc (v := nI (i + 1)) (lv' := [(4, .int (nI (i + 1))), (3, .int (nI i)), (0, .ref (q 0)), (1, .int o), (2, .int x)]) hx hb dX1_nextAlong_59 hl (k := 4) rfl (by rw [show Int32.ofInt 1 = nI 1 by decide, nI_add]) (by decide) rfl (fun ls hl => ?_)
                refine lv_goto (tgt := 5) hx hb dX1_nextAlong_62 (by decide) ?_
                exact ih (i + 1) (some i) (by omega) (fun j h => by cases h; omega) (by simp [naF, ← hbt, c2, c3, c6]) (by omega) _ _ _ hP hD hS (lv_sub hl [2, 3, 4, 1, 0] rfl)
  exact loop5 _ 0 none (by omega) (fun j h => by cases h) rfl (Nat.lt_succ_self _) s.heap _ _ hP hD hS (lv_sub hl [2, 3, 4, 1, 0] rfl)
end
section
set_option maxHeartbeats 4000000 in
set_option maxRecDepth 100000 in
theorem kX2_isWithin (l : Launch) (D : va_G) (k : Nat → ClassId) (zz : Nat) (x : Int32) (a : Int32) (b : Int32) : MI l yX2_isWithin wsX2_isWithin ({ frames := 0, cells := 0, slots := 0, locals := 0 } : Room) D k ([]) zz [.int x, .int a, .int b] (fun r9 w9 => r9 = (bI (inw x a b)) ∧ w9 = []) 0 0 := by
  refine bodyOf (Qc := fun A => QI D k (fun r9 w9 => r9 = (bI (inw x a b)) ∧ w9 = []) A) (cc := cX2_isWithin) (maxL := 3) (ret := (some .boolean)) (by decide) rfl (Nat.le_of_ble_eq_true rfl) ?_
  intro p e s m below meth c A ls hc hA hK hP hD hS hl
  obtain ⟨hx, hb, hml, hr, hts, hown, hlocks, hin⟩ := (show _ from hc)
  have hl : lv_has ls 3 [(0, .int x), (1, .int a), (2, .int b)] := hl
  refine lv_iload_n hx hb dX2_isWithin_0 rfl (lv_at hl 0 rfl) ?_
  refine lv_iload_n hx hb dX2_isWithin_1 rfl (lv_at hl 1 rfl) ?_
  refine lv_icmp_lt (tgt := 14) hx hb dX2_isWithin_2 (by decide) (fun c1 => ?_) (fun c1 => ?_)
  · refine lv_iconst (v := nI 0) hx hb dX2_isWithin_14 (by decide) ?_
    exact retZ hc dX2_isWithin_15 hK hP hD hS (Or.inl rfl) (⟨bI_f (by simp [c1]), rfl⟩) (Nat.le_of_ble_eq_true rfl) (Nat.le_of_ble_eq_true rfl)
  · refine lv_iload_n hx hb dX2_isWithin_5 rfl (lv_at hl 0 rfl) ?_
    refine lv_iload_n hx hb dX2_isWithin_6 rfl (lv_at hl 2 rfl) ?_
    refine lv_icmp_gt (tgt := 14) hx hb dX2_isWithin_7 (by decide) (fun c2 => ?_) (fun c2 => ?_)
    · refine lv_iconst (v := nI 0) hx hb dX2_isWithin_14 (by decide) ?_
      exact retZ hc dX2_isWithin_15 hK hP hD hS (Or.inl rfl) (⟨bI_f (by simp [c2]), rfl⟩) (Nat.le_of_ble_eq_true rfl) (Nat.le_of_ble_eq_true rfl)
    · refine lv_iconst (v := nI 1) hx hb dX2_isWithin_10 (by decide) ?_
      refine lv_goto (tgt := 15) hx hb dX2_isWithin_11 (by decide) ?_
      exact retZ hc dX2_isWithin_15 hK hP hD hS (Or.inr rfl) (⟨bI_t ⟨c1, c2⟩, rfl⟩) (Nat.le_of_ble_eq_true rfl) (Nat.le_of_ble_eq_true rfl)
theorem mwX2_areOnDisk_0 : Cond.constant RX2 151 (100000) ∈ wsX2_areOnDisk := by decide +kernel
set_option maxHeartbeats 4000000 in
set_option maxRecDepth 100000 in
theorem kX2_areOnDisk (l : Launch) (D : va_G) (k : Nat → ClassId) (zz : Nat) (x : Int32) (y : Int32) : MI l yX2_areOnDisk wsX2_areOnDisk ({ frames := 1, cells := 0, slots := 0, locals := 22 } : Room) D k ([]) zz [.int x, .int y] (fun r9 w9 => r9 = (bI (inw y (nI 1) (nI 64) ∧ inw x (nI 0) (nI 100000 - y))) ∧ w9 = []) 0 0 := by
  refine bodyOf (Qc := fun A => QI D k (fun r9 w9 => r9 = (bI (inw y (nI 1) (nI 64) ∧ inw x (nI 0) (nI 100000 - y))) ∧ w9 = []) A) (cc := cX2_areOnDisk) (maxL := 2) (ret := (some .boolean)) (by decide) rfl (Nat.le_of_ble_eq_true rfl) ?_
  intro p e s m below meth c A ls hc hA hK hP hD hS hl
  obtain ⟨hx, hb, hml, hr, hts, hown, hlocks, hin⟩ := (show _ from hc)
  have hl : lv_has ls 2 [(0, .int x), (1, .int y)] := hl
  refine lv_iload_n hx hb dX2_areOnDisk_0 rfl (lv_at hl 1 rfl) ?_
  refine lv_iconst (v := nI 1) hx hb dX2_areOnDisk_1 (by decide) ?_
  refine lv_bipush (v := nI 64) hx hb dX2_areOnDisk_2 (by decide) ?_
  refine goSI hc (kX2_isWithin l D k s.heap.size y (nI 1) (nI 64)) (va_cwS 3 hts gX2_areOnDisk_X2_isWithin rfl rfl rfl (by decide +kernel) ⟨(Nat.le_of_ble_eq_true rfl), (Nat.le_of_ble_eq_true rfl)⟩) hP hD hK hS hA rfl hl.1 rfl (Nat.le_of_ble_eq_true rfl) dX2_areOnDisk_4 (Nat.le_of_ble_eq_true rfl) (Nat.le_of_ble_eq_true rfl) (fun r9 B9 H locs hq hP hD hS => ?_)
  obtain ⟨hr9, -⟩ := hq
  subst hr9
  have hP : va_P D vwCl ([]) H := hP
  have hD : va_D A ([]) := hD
  refine lv_if_eq (tgt := 26) hx hb dX2_areOnDisk_7 (by decide) (fun c1 => ?_) (fun c1 => ?_)
  · refine lv_iconst (v := nI 0) hx hb dX2_areOnDisk_26 (by decide) ?_
    exact retZ hc dX2_areOnDisk_27 hK hP hD hS (Or.inl rfl) (⟨bI_f (fun h => bI_0 c1 h.1), rfl⟩) (Nat.le_of_ble_eq_true rfl) (Nat.le_of_ble_eq_true rfl)
  · refine lv_iload_n hx hb dX2_areOnDisk_10 rfl (lv_at hl 0 rfl) ?_
    refine lv_iconst (v := nI 0) hx hb dX2_areOnDisk_11 (by decide) ?_
    refine lv_ldc (v := nI 100000) hx hb hown (hts (.constant RX2 151 (100000)) mwX2_areOnDisk_0) dX2_areOnDisk_12 ?_
    refine lv_iload_n hx hb dX2_areOnDisk_14 rfl (lv_at hl 1 rfl) ?_
    refine lv_isub hx hb dX2_areOnDisk_15 ?_
    refine goSI hc (kX2_isWithin l D k H.size x (nI 0) ((nI 100000) - y)) (va_cwS 3 hts gX2_areOnDisk_X2_isWithin rfl rfl rfl (by decide +kernel) ⟨(Nat.le_of_ble_eq_true rfl), (Nat.le_of_ble_eq_true rfl)⟩) hP hD hK hS hA rfl hl.1 rfl (Nat.le_of_ble_eq_true rfl) dX2_areOnDisk_16 (Nat.le_of_ble_eq_true rfl) (Nat.le_of_ble_eq_true rfl) (fun r9 B9 H locs hq hP hD hS => ?_)
    obtain ⟨hr9, -⟩ := hq
    subst hr9
    have hP : va_P D vwCl ([]) H := hP
    have hD : va_D A ([]) := hD
    refine lv_if_eq (tgt := 26) hx hb dX2_areOnDisk_19 (by decide) (fun c2 => ?_) (fun c2 => ?_)
    · refine lv_iconst (v := nI 0) hx hb dX2_areOnDisk_26 (by decide) ?_
      exact retZ hc dX2_areOnDisk_27 hK hP hD hS (Or.inl rfl) (⟨bI_f (fun h => bI_0 c2 h.2), rfl⟩) (Nat.le_of_ble_eq_true rfl) (Nat.le_of_ble_eq_true rfl)
    · refine lv_iconst (v := nI 1) hx hb dX2_areOnDisk_22 (by decide) ?_
      refine lv_goto (tgt := 27) hx hb dX2_areOnDisk_23 (by decide) ?_
      exact retZ hc dX2_areOnDisk_27 hK hP hD hS (Or.inr rfl) (⟨bI_t ⟨bI_1 c1, bI_1 c2⟩, rfl⟩) (Nat.le_of_ble_eq_true rfl) (Nat.le_of_ble_eq_true rfl)
theorem mwX2_requireThere_0 : Cond.classLink RX2 31 "java/lang/IllegalArgumentException" ∈ wsX2_requireThere := by decide +kernel
theorem mwX2_requireThere_1 : Cond.initialized "java/lang/IllegalArgumentException" ∈ wsX2_requireThere := by decide +kernel
theorem mwX2_requireThere_2 : Cond.fieldLink RX2 10 "ShareDisk" "clients" "LShareDisk$Clients;" ∈ wsX2_requireThere := by decide +kernel
theorem iwX2_requireThere_X2 : ∀ w ∈ wsX20, w ∈ wsX2_requireThere := by decide +kernel
theorem xaX2_requireThere_33 : ∀ w ∈ (vx_at0 RX2 33 "java/lang/IllegalArgumentException" ["java/lang/RuntimeException", "java/lang/Exception"]).filter goodWord, w ∈ wsX2_requireThere := by decide +kernel
theorem xbX2_requireThere_33 : ∀ w ∈ (vx_at0 RX2 33 "java/lang/IllegalArgumentException" ["java/lang/RuntimeException", "java/lang/Exception"]).filter (fun w => !goodWord w), w ∈ NGl := by decide +kernel
theorem xcX2_requireThere_33 : ∀ w ∈ Cond.classLink RX2 31 "java/lang/IllegalArgumentException" :: Cond.initialized "java/lang/IllegalArgumentException" :: vx_at0 RX2 33 "java/lang/IllegalArgumentException" ["java/lang/RuntimeException", "java/lang/Exception"], vx_ot w = true := by decide +kernel
set_option maxHeartbeats 4000000 in
set_option maxRecDepth 100000 in
theorem kX2_requireThere (l : Launch) (D : va_G) (k : Nat → ClassId) (d : Nat) (cq : Nat → Nat) (rq : Nat → Nat) (zz : Nat) (ck : Int64) (hd : Int32) (po st : Int64) (sl le : Int32) (th co bu : Nat → Int32) (tg : Nat → Int64) (wa se : Nat → Int32) (ld : Nat → Nat → Int64) (ow wr fi sz : Nat → Int32) (dl : Nat → Int64) (wt bl sh so : Nat → Int32) (tn sn un : Nat) (x : Int32) (hth : ∀ i, th i = 0 ∨ th i = 1) (hl0 : l.stackTraces = false) : XV l yX2_requireThere wsX2_requireThere ({ frames := 6, cells := 1, slots := 6, locals := 89 } : Room) D k (DkW d (cq 0) (rq 0) ck hd po st sl le ++ (ClW cq k th co bu tg wa se ld ++ (RqW rq k ow wr fi sz dl wt bl sh so tn sn un))) zz [.ref d, .int x] (fun w9 => w9 = DkW d (cq 0) (rq 0) ck hd po st sl le ++ (ClW cq k th co bu tg wa se ld ++ (RqW rq k ow wr fi sz dl wt bl sh so tn sn un)) ∧ (isT th x)) (fun E w9 => E = IAE ∧ w9 = DkW d (cq 0) (rq 0) ck hd po st sl le ++ (ClW cq k th co bu tg wa se ld ++ (RqW rq k ow wr fi sz dl wt bl sh so tn sn un)) ∧ ¬ isT th x) 1 6 := by
  refine bodyOfX (Qc := fun A => QV D k (fun w9 => w9 = DkW d (cq 0) (rq 0) ck hd po st sl le ++ (ClW cq k th co bu tg wa se ld ++ (RqW rq k ow wr fi sz dl wt bl sh so tn sn un)) ∧ (isT th x)) A) (XC := fun A => QX D k (fun E w9 => E = IAE ∧ w9 = DkW d (cq 0) (rq 0) ck hd po st sl le ++ (ClW cq k th co bu tg wa se ld ++ (RqW rq k ow wr fi sz dl wt bl sh so tn sn un)) ∧ ¬ isT th x) A) (cc := cX2_requireThere) (maxL := 2) (ret := none) (by decide) rfl (Nat.le_of_ble_eq_true rfl) ?_
  intro p e s m below meth c A ls hc htab hZ hA hK hP hD hS hl
  obtain ⟨hx, hb, hml, hr, hts, hown, hlocks, hin⟩ := (show _ from hc)
  have hl : lv_has ls 2 [(0, .ref d), (1, .int x)] := hl
  refine lv_iload_n hx hb dX2_requireThere_0 rfl (lv_at hl 1 rfl) ?_
  refine lv_iconst (v := nI 0) hx hb dX2_requireThere_1 (by decide) ?_
  refine lv_bipush (v := nI 7) hx hb dX2_requireThere_2 (by decide) ?_
  refine goSI hc (kX2_isWithin l D k s.heap.size x (nI 0) (nI 7)) (va_cwS 3 hts gX2_requireThere_X2_isWithin rfl rfl rfl (by decide +kernel) ⟨(Nat.le_of_ble_eq_true rfl), (Nat.le_of_ble_eq_true rfl)⟩) hP hD hK hS hA rfl hl.1 rfl (Nat.le_of_ble_eq_true rfl) dX2_requireThere_4 (Nat.le_of_ble_eq_true rfl) (Nat.le_of_ble_eq_true rfl) (fun r9 B9 H locs hq hP hD hS => ?_)
  obtain ⟨hr9, -⟩ := hq
  subst hr9
  have hP : va_P D vwCl (DkW d (cq 0) (rq 0) ck hd po st sl le ++ (ClW cq k th co bu tg wa se ld ++ (RqW rq k ow wr fi sz dl wt bl sh so tn sn un))) H := hP
  have hD : va_D A (DkW d (cq 0) (rq 0) ck hd po st sl le ++ (ClW cq k th co bu tg wa se ld ++ (RqW rq k ow wr fi sz dl wt bl sh so tn sn un))) := hD
  refine lv_if_eq (tgt := 21) hx hb dX2_requireThere_7 (by decide) (fun c1 => ?_) (fun c1 => ?_)
  · exact thr (E := "java/lang/IllegalArgumentException") (names := ["java/lang/RuntimeException", "java/lang/Exception"]) hc htab hl0 hZ hK hP hD hS (by decide +kernel) (by decide +kernel) mwX2_requireThere_0 mwX2_requireThere_1 xaX2_requireThere_33 xbX2_requireThere_33 xcX2_requireThere_33 hl.1 dX2_requireThere_21 dX2_requireThere_24 dX2_requireThere_25 dX2_requireThere_28 (Nat.le_of_ble_eq_true rfl) (Nat.le_of_ble_eq_true rfl) (Nat.le_of_ble_eq_true rfl) (Nat.le_of_ble_eq_true rfl) (⟨rfl, rfl, fun h => by obtain ⟨j, hj, rfl, -⟩ := h; exact bI_0 c1 ⟨nI_pos (by omega), nI_nlt (by omega) (by decide)⟩⟩) (Nat.le_of_ble_eq_true rfl) (Nat.le_of_ble_eq_true rfl)
  · obtain ⟨j, hj, rfl⟩ := ofW (bI_1 c1) (by decide)
    refine lv_aload_n hx hb dX2_requireThere_10 rfl (lv_at hl 0 rfl) ?_
    refine va_get (D := D) (ci := 2) (v := .ref (cq 0)) (C := RX2) (T := TX2) (N := 8) hx hb hts iwX2_requireThere_X2 hown hK hP 0 rfl rfl 0 (by decide) (hts (Cond.fieldLink RX2 10 "ShareDisk" "clients" "LShareDisk$Clients;") mwX2_requireThere_2) (fun _ h9 => h9) rfl dX2_requireThere_11 ?_
    refine lv_iload_n hx hb dX2_requireThere_14 rfl (lv_at hl 1 rfl) ?_
    refine goVI hc (kX0_isThere l D k cq H.size th co bu tg wa se ld j (by omega) (hth)) (cwV 1 hts gX2_requireThere_X0_isThere rfl rfl rfl (by decide +kernel) ⟨(Nat.le_of_ble_eq_true rfl), (Nat.le_of_ble_eq_true rfl)⟩) hP hD hK hS hA (ci := 0) (q0 := 0) rfl rfl rfl hl.1 rfl (Nat.le_of_ble_eq_true rfl) dX2_requireThere_15 (Nat.le_of_ble_eq_true rfl) (Nat.le_of_ble_eq_true rfl) (fun r9 B9 H locs hq hP hD hS => ?_)
    obtain ⟨hr9, rfl⟩ := hq
    subst hr9
    have hP : va_P D vwCl (DkW d (cq 0) (rq 0) ck hd po st sl le ++ (ClW cq k th co bu tg wa se ld ++ (RqW rq k ow wr fi sz dl wt bl sh so tn sn un))) H := hP
    have hD : va_D A (DkW d (cq 0) (rq 0) ck hd po st sl le ++ (ClW cq k th co bu tg wa se ld ++ (RqW rq k ow wr fi sz dl wt bl sh so tn sn un))) := hD
    refine lv_if_ne (tgt := 29) hx hb dX2_requireThere_18 (by decide) (fun c2 => ?_) (fun c2 => ?_)
    · exact retVX hc dX2_requireThere_29 hK hP hD hS (⟨rfl, j, by omega, rfl, c2⟩) (Nat.le_of_ble_eq_true rfl) (Nat.le_of_ble_eq_true rfl)
    · exact thr (E := "java/lang/IllegalArgumentException") (names := ["java/lang/RuntimeException", "java/lang/Exception"]) hc htab hl0 hZ hK hP hD hS (by decide +kernel) (by decide +kernel) mwX2_requireThere_0 mwX2_requireThere_1 xaX2_requireThere_33 xbX2_requireThere_33 xcX2_requireThere_33 hl.1 dX2_requireThere_21 dX2_requireThere_24 dX2_requireThere_25 dX2_requireThere_28 (Nat.le_of_ble_eq_true rfl) (Nat.le_of_ble_eq_true rfl) (Nat.le_of_ble_eq_true rfl) (Nat.le_of_ble_eq_true rfl) (⟨rfl, rfl, fun h => by obtain ⟨i, hi, he, ht⟩ := h; rw [(nI_eq (by omega) (by omega)).mp he] at c2; exact ht c2⟩) (Nat.le_of_ble_eq_true rfl) (Nat.le_of_ble_eq_true rfl)
theorem mwX2_endSlice_0 : Cond.fieldLink RX2 23 "ShareDisk" "sliceOwner" "I" ∈ wsX2_endSlice := by decide +kernel
theorem mwX2_endSlice_1 : Cond.fieldLink RX2 146 "ShareDisk" "sliceLeft" "I" ∈ wsX2_endSlice := by decide +kernel
theorem iwX2_endSlice_X2 : ∀ w ∈ wsX20, w ∈ wsX2_endSlice := by decide +kernel
set_option maxHeartbeats 4000000 in
set_option maxRecDepth 100000 in
theorem kX2_endSlice (l : Launch) (D : va_G) (k : Nat → ClassId) (d : Nat) (cq : Nat → Nat) (rq : Nat → Nat) (zz : Nat) (ck : Int64) (hd : Int32) (po st : Int64) (sl le : Int32) (th co bu : Nat → Int32) (tg : Nat → Int64) (wa se : Nat → Int32) (ld : Nat → Nat → Int64) (ow wr fi sz : Nat → Int32) (dl : Nat → Int64) (wt bl sh so : Nat → Int32) (tn sn un : Nat) : MV l yX2_endSlice wsX2_endSlice ({ frames := 0, cells := 0, slots := 0, locals := 0 } : Room) D k (DkW d (cq 0) (rq 0) ck hd po st sl le ++ (ClW cq k th co bu tg wa se ld ++ (RqW rq k ow wr fi sz dl wt bl sh so tn sn un))) zz [.ref d] (fun w9 => w9 = DkW d (cq 0) (rq 0) ck hd po st (-1) (nI 0) ++ (ClW cq k th co bu tg wa se ld ++ (RqW rq k ow wr fi sz dl wt bl sh so tn sn un))) 0 0 := by
  refine bodyOf (Qc := fun A => QV D k (fun w9 => w9 = DkW d (cq 0) (rq 0) ck hd po st (-1) (nI 0) ++ (ClW cq k th co bu tg wa se ld ++ (RqW rq k ow wr fi sz dl wt bl sh so tn sn un))) A) (cc := cX2_endSlice) (maxL := 1) (ret := none) (by decide) rfl (Nat.le_of_ble_eq_true rfl) ?_
  intro p e s m below meth c A ls hc hA hK hP hD hS hl
  obtain ⟨hx, hb, hml, hr, hts, hown, hlocks, hin⟩ := (show _ from hc)
  have hl : lv_has ls 1 [(0, .ref d)] := hl
  refine lv_aload_n hx hb dX2_endSlice_0 rfl (lv_at hl 0 rfl) ?_
  refine lv_iconst (v := (-1)) hx hb dX2_endSlice_1 (by decide) ?_
  refine va_put (D := D) (ci := 2) (v := .int (-1)) (ty := .int) (C := RX2) (T := TX2) (N := 8) hx hb hts iwX2_endSlice_X2 tyX2 tyX2_ok nmX2 hown hK hP hD hS 0 rfl rfl 6 (by decide) (hts (Cond.fieldLink RX2 23 "ShareDisk" "sliceOwner" "I") mwX2_endSlice_0) (fun _ h9 => h9) rfl (by decide +kernel) rfl rfl (Nat.le_of_ble_eq_true rfl) dX2_endSlice_2 (fun H locs hP hD hS => ?_)
  have hP : va_P D vwCl (DkW d (cq 0) (rq 0) ck hd po st (-1) le ++ (ClW cq k th co bu tg wa se ld ++ (RqW rq k ow wr fi sz dl wt bl sh so tn sn un))) H := hP
  have hD : va_D A (DkW d (cq 0) (rq 0) ck hd po st (-1) le ++ (ClW cq k th co bu tg wa se ld ++ (RqW rq k ow wr fi sz dl wt bl sh so tn sn un))) := hD
  refine lv_aload_n hx hb dX2_endSlice_5 rfl (lv_at hl 0 rfl) ?_
  refine lv_iconst (v := nI 0) hx hb dX2_endSlice_6 (by decide) ?_
  refine va_put (D := D) (ci := 2) (v := .int (nI 0)) (ty := .int) (C := RX2) (T := TX2) (N := 8) hx hb hts iwX2_endSlice_X2 tyX2 tyX2_ok nmX2 hown hK hP hD hS 0 rfl rfl 7 (by decide) (hts (Cond.fieldLink RX2 146 "ShareDisk" "sliceLeft" "I") mwX2_endSlice_1) (fun _ h9 => h9) rfl (by decide +kernel) rfl rfl (Nat.le_of_ble_eq_true rfl) dX2_endSlice_7 (fun H locs hP hD hS => ?_)
  have hP : va_P D vwCl (DkW d (cq 0) (rq 0) ck hd po st (-1) (nI 0) ++ (ClW cq k th co bu tg wa se ld ++ (RqW rq k ow wr fi sz dl wt bl sh so tn sn un))) H := hP
  have hD : va_D A (DkW d (cq 0) (rq 0) ck hd po st (-1) (nI 0) ++ (ClW cq k th co bu tg wa se ld ++ (RqW rq k ow wr fi sz dl wt bl sh so tn sn un))) := hD
  exact retV hc dX2_endSlice_10 hK hP hD hS (rfl) (Nat.le_of_ble_eq_true rfl) (Nat.le_of_ble_eq_true rfl)
theorem mwX2_moveHead_0 : Cond.fieldLink RX2 97 "ShareDisk" "head" "I" ∈ wsX2_moveHead := by decide +kernel
theorem mwX2_moveHead_1 : Cond.methodLink RX2 183 Lib.Math.abs.name ∈ wsX2_moveHead := by decide +kernel
theorem mwX2_moveHead_2 : Cond.static Lib.Math.abs.name ∈ wsX2_moveHead := by decide +kernel
theorem mwX2_moveHead_3 : Cond.initialized "java/lang/Math" ∈ wsX2_moveHead := by decide +kernel
theorem mwX2_moveHead_4 : Cond.code Lib.Math.abs.name Lib.Math.abs.code 1 (some .int) ∈ wsX2_moveHead := by decide +kernel
theorem mwX2_moveHead_5 : Cond.fieldLink RX2 143 "ShareDisk" "passedOver" "J" ∈ wsX2_moveHead := by decide +kernel
theorem mwX2_moveHead_6 : Cond.fieldLink RX2 79 "ShareDisk" "clock" "J" ∈ wsX2_moveHead := by decide +kernel
theorem iwX2_moveHead_X2 : ∀ w ∈ wsX20, w ∈ wsX2_moveHead := by decide +kernel
set_option maxHeartbeats 4000000 in
set_option maxRecDepth 100000 in
theorem kX2_moveHead (l : Launch) (D : va_G) (k : Nat → ClassId) (d : Nat) (cq : Nat → Nat) (rq : Nat → Nat) (zz : Nat) (ck : Int64) (hd : Int32) (po st : Int64) (sl le : Int32) (th co bu : Nat → Int32) (tg : Nat → Int64) (wa se : Nat → Int32) (ld : Nat → Nat → Int64) (ow wr fi sz : Nat → Int32) (dl : Nat → Int64) (wt bl sh so : Nat → Int32) (tn sn un : Nat) (f : Int32) (z : Int32) : MV l yX2_moveHead wsX2_moveHead ({ frames := 1, cells := 0, slots := 0, locals := 21 } : Room) D k (DkW d (cq 0) (rq 0) ck hd po st sl le ++ (ClW cq k th co bu tg wa se ld ++ (RqW rq k ow wr fi sz dl wt bl sh so tn sn un))) zz [.ref d, .int f, .int z] (fun w9 => w9 = DkW d (cq 0) (rq 0) (ck + (abI (f - hd) / nI 100 + z).toInt64) (f + z) (po + (abI (f - hd)).toInt64) st sl le ++ (ClW cq k th co bu tg wa se ld ++ (RqW rq k ow wr fi sz dl wt bl sh so tn sn un))) 0 0 := by
  refine bodyOf (Qc := fun A => QV D k (fun w9 => w9 = DkW d (cq 0) (rq 0) (ck + (abI (f - hd) / nI 100 + z).toInt64) (f + z) (po + (abI (f - hd)).toInt64) st sl le ++ (ClW cq k th co bu tg wa se ld ++ (RqW rq k ow wr fi sz dl wt bl sh so tn sn un))) A) (cc := cX2_moveHead) (maxL := 4) (ret := none) (by decide) rfl (Nat.le_of_ble_eq_true rfl) ?_
  intro p e s m below meth c A ls hc hA hK hP hD hS hl
  obtain ⟨hx, hb, hml, hr, hts, hown, hlocks, hin⟩ := (show _ from hc)
  have hl : lv_has ls 4 [(0, .ref d), (1, .int f), (2, .int z)] := hl
  refine lv_iload_n hx hb dX2_moveHead_0 rfl (lv_at hl 1 rfl) ?_
  refine lv_aload_n hx hb dX2_moveHead_1 rfl (lv_at hl 0 rfl) ?_
  refine va_get (D := D) (ci := 2) (v := .int hd) (C := RX2) (T := TX2) (N := 8) hx hb hts iwX2_moveHead_X2 hown hK hP 0 rfl rfl 3 (by decide) (hts (Cond.fieldLink RX2 97 "ShareDisk" "head" "I") mwX2_moveHead_0) (fun _ h9 => h9) rfl dX2_moveHead_2 ?_
  refine lv_isub hx hb dX2_moveHead_5 ?_
  refine va_mabs hx hb (hml.trans hl.1.symm) hown (hts (Cond.methodLink RX2 183 Lib.Math.abs.name) mwX2_moveHead_1) (hts (Cond.static Lib.Math.abs.name) mwX2_moveHead_2) (hts (Cond.initialized "java/lang/Math") mwX2_moveHead_3) (hts (Cond.code Lib.Math.abs.name Lib.Math.abs.code 1 (some .int)) mwX2_moveHead_4) (Nat.le_of_ble_eq_true rfl) (Nat.le_of_ble_eq_true rfl) (Nat.le_of_ble_eq_true rfl) (Nat.le_of_ble_eq_true rfl) dX2_moveHead_6 ?_
  refine lv_istore_n (lv' := [(3, .int (abI (f - hd))), (0, .ref d), (1, .int f), (2, .int z)]) hx hb dX2_moveHead_9 rfl hl (by decide) rfl (fun ls hl => ?_)
  refine lv_aload_n hx hb dX2_moveHead_10 rfl (lv_at hl 1 rfl) ?_
  refine lv_dup hx hb dX2_moveHead_11 rfl ?_
  refine va_get (D := D) (ci := 2) (v := .long po) (C := RX2) (T := TX2) (N := 8) hx hb hts iwX2_moveHead_X2 hown hK hP 0 rfl rfl 4 (by decide) (hts (Cond.fieldLink RX2 143 "ShareDisk" "passedOver" "J") mwX2_moveHead_5) (fun _ h9 => h9) rfl dX2_moveHead_12 ?_
  refine lv_iload_n hx hb dX2_moveHead_15 rfl (lv_at hl 0 rfl) ?_
  refine lv_i2l (v := (abI (f - hd)).toInt64) hx hb dX2_moveHead_16 rfl ?_
  refine lv_ladd hx hb dX2_moveHead_17 ?_
  refine va_put (D := D) (ci := 2) (v := .long (po + ((abI (f - hd)).toInt64))) (ty := .long) (C := RX2) (T := TX2) (N := 8) hx hb hts iwX2_moveHead_X2 tyX2 tyX2_ok nmX2 hown hK hP hD hS 0 rfl rfl 4 (by decide) (hts (Cond.fieldLink RX2 143 "ShareDisk" "passedOver" "J") mwX2_moveHead_5) (fun _ h9 => h9) rfl (by decide +kernel) rfl rfl (Nat.le_of_ble_eq_true rfl) dX2_moveHead_18 (fun H locs hP hD hS => ?_)
  have hP : va_P D vwCl (DkW d (cq 0) (rq 0) ck hd (po + ((abI (f - hd)).toInt64)) st sl le ++ (ClW cq k th co bu tg wa se ld ++ (RqW rq k ow wr fi sz dl wt bl sh so tn sn un))) H := hP
  have hD : va_D A (DkW d (cq 0) (rq 0) ck hd (po + ((abI (f - hd)).toInt64)) st sl le ++ (ClW cq k th co bu tg wa se ld ++ (RqW rq k ow wr fi sz dl wt bl sh so tn sn un))) := hD
  refine lv_aload_n hx hb dX2_moveHead_21 rfl (lv_at hl 1 rfl) ?_
  refine lv_dup hx hb dX2_moveHead_22 rfl ?_
  refine va_get (D := D) (ci := 2) (v := .long ck) (C := RX2) (T := TX2) (N := 8) hx hb hts iwX2_moveHead_X2 hown hK hP 0 rfl rfl 2 (by decide) (hts (Cond.fieldLink RX2 79 "ShareDisk" "clock" "J") mwX2_moveHead_6) (fun _ h9 => h9) rfl dX2_moveHead_23 ?_
  refine lv_iload_n hx hb dX2_moveHead_26 rfl (lv_at hl 0 rfl) ?_
  refine lv_bipush (v := nI 100) hx hb dX2_moveHead_27 (by decide) ?_
  refine lv_idiv hx hb dX2_moveHead_29 (by decide) ?_
  refine lv_iload_n hx hb dX2_moveHead_30 rfl (lv_at hl 3 rfl) ?_
  refine lv_iadd hx hb dX2_moveHead_31 ?_
  refine lv_i2l (v := (((abI (f - hd)) / (nI 100)) + z).toInt64) hx hb dX2_moveHead_32 rfl ?_
  refine lv_ladd hx hb dX2_moveHead_33 ?_
  refine va_put (D := D) (ci := 2) (v := .long (ck + ((((abI (f - hd)) / (nI 100)) + z).toInt64))) (ty := .long) (C := RX2) (T := TX2) (N := 8) hx hb hts iwX2_moveHead_X2 tyX2 tyX2_ok nmX2 hown hK hP hD hS 0 rfl rfl 2 (by decide) (hts (Cond.fieldLink RX2 79 "ShareDisk" "clock" "J") mwX2_moveHead_6) (fun _ h9 => h9) rfl (by decide +kernel) rfl rfl (Nat.le_of_ble_eq_true rfl) dX2_moveHead_34 (fun H locs hP hD hS => ?_)
  have hP : va_P D vwCl (DkW d (cq 0) (rq 0) (ck + ((((abI (f - hd)) / (nI 100)) + z).toInt64)) hd (po + ((abI (f - hd)).toInt64)) st sl le ++ (ClW cq k th co bu tg wa se ld ++ (RqW rq k ow wr fi sz dl wt bl sh so tn sn un))) H := hP
  have hD : va_D A (DkW d (cq 0) (rq 0) (ck + ((((abI (f - hd)) / (nI 100)) + z).toInt64)) hd (po + ((abI (f - hd)).toInt64)) st sl le ++ (ClW cq k th co bu tg wa se ld ++ (RqW rq k ow wr fi sz dl wt bl sh so tn sn un))) := hD
  refine lv_aload_n hx hb dX2_moveHead_37 rfl (lv_at hl 1 rfl) ?_
  refine lv_iload_n hx hb dX2_moveHead_38 rfl (lv_at hl 2 rfl) ?_
  refine lv_iload_n hx hb dX2_moveHead_39 rfl (lv_at hl 3 rfl) ?_
  refine lv_iadd hx hb dX2_moveHead_40 ?_
  refine va_put (D := D) (ci := 2) (v := .int (f + z)) (ty := .int) (C := RX2) (T := TX2) (N := 8) hx hb hts iwX2_moveHead_X2 tyX2 tyX2_ok nmX2 hown hK hP hD hS 0 rfl rfl 3 (by decide) (hts (Cond.fieldLink RX2 97 "ShareDisk" "head" "I") mwX2_moveHead_0) (fun _ h9 => h9) rfl (by decide +kernel) rfl rfl (Nat.le_of_ble_eq_true rfl) dX2_moveHead_41 (fun H locs hP hD hS => ?_)
  have hP : va_P D vwCl (DkW d (cq 0) (rq 0) (ck + ((((abI (f - hd)) / (nI 100)) + z).toInt64)) (f + z) (po + ((abI (f - hd)).toInt64)) st sl le ++ (ClW cq k th co bu tg wa se ld ++ (RqW rq k ow wr fi sz dl wt bl sh so tn sn un))) H := hP
  have hD : va_D A (DkW d (cq 0) (rq 0) (ck + ((((abI (f - hd)) / (nI 100)) + z).toInt64)) (f + z) (po + ((abI (f - hd)).toInt64)) st sl le ++ (ClW cq k th co bu tg wa se ld ++ (RqW rq k ow wr fi sz dl wt bl sh so tn sn un))) := hD
  exact retV hc dX2_moveHead_44 hK hP hD hS (rfl) (Nat.le_of_ble_eq_true rfl) (Nat.le_of_ble_eq_true rfl)
theorem mwX2_takeFromSlice_0 : Cond.fieldLink RX2 146 "ShareDisk" "sliceLeft" "I" ∈ wsX2_takeFromSlice := by decide +kernel
theorem mwX2_takeFromSlice_1 : Cond.fieldLink RX2 10 "ShareDisk" "clients" "LShareDisk$Clients;" ∈ wsX2_takeFromSlice := by decide +kernel
theorem mwX2_takeFromSlice_2 : Cond.fieldLink RX2 23 "ShareDisk" "sliceOwner" "I" ∈ wsX2_takeFromSlice := by decide +kernel
theorem iwX2_takeFromSlice_X2 : ∀ w ∈ wsX20, w ∈ wsX2_takeFromSlice := by decide +kernel
set_option maxHeartbeats 4000000 in
set_option maxRecDepth 100000 in
theorem kX2_takeFromSlice (l : Launch) (D : va_G) (k : Nat → ClassId) (d : Nat) (cq : Nat → Nat) (rq : Nat → Nat) (zz : Nat) (ck : Int64) (hd : Int32) (po st : Int64) (sl le : Int32) (th co bu : Nat → Int32) (tg : Nat → Int64) (wa se : Nat → Int32) (ld : Nat → Nat → Int64) (ow wr fi sz : Nat → Int32) (dl : Nat → Int64) (wt bl sh so : Nat → Int32) (tn sn un : Nat) (z : Int32) (o : Nat) (ho : o < 8) (hsl : sl = nI o) : MV l yX2_takeFromSlice wsX2_takeFromSlice ({ frames := 1, cells := 0, slots := 0, locals := 21 } : Room) D k (DkW d (cq 0) (rq 0) ck hd po st sl le ++ (ClW cq k th co bu tg wa se ld ++ (RqW rq k ow wr fi sz dl wt bl sh so tn sn un))) zz [.ref d, .int z] (fun w9 => w9 = DkW d (cq 0) (rq 0) ck hd po st (if le - z ≤ 0 ∨ wa o = 0 then (-1) else sl) (if le - z ≤ 0 ∨ wa o = 0 then nI 0 else le - z) ++ (ClW cq k th co bu tg wa se ld ++ (RqW rq k ow wr fi sz dl wt bl sh so tn sn un))) 0 0 := by
  refine bodyOf (Qc := fun A => QV D k (fun w9 => w9 = DkW d (cq 0) (rq 0) ck hd po st (if le - z ≤ 0 ∨ wa o = 0 then (-1) else sl) (if le - z ≤ 0 ∨ wa o = 0 then nI 0 else le - z) ++ (ClW cq k th co bu tg wa se ld ++ (RqW rq k ow wr fi sz dl wt bl sh so tn sn un))) A) (cc := cX2_takeFromSlice) (maxL := 2) (ret := none) (by decide) rfl (Nat.le_of_ble_eq_true rfl) ?_
  intro p e s m below meth c A ls hc hA hK hP hD hS hl
  obtain ⟨hx, hb, hml, hr, hts, hown, hlocks, hin⟩ := (show _ from hc)
  have hl : lv_has ls 2 [(0, .ref d), (1, .int z)] := hl
  subst hsl
  refine lv_aload_n hx hb dX2_takeFromSlice_0 rfl (lv_at hl 0 rfl) ?_
  refine lv_dup hx hb dX2_takeFromSlice_1 rfl ?_
  refine va_get (D := D) (ci := 2) (v := .int le) (C := RX2) (T := TX2) (N := 8) hx hb hts iwX2_takeFromSlice_X2 hown hK hP 0 rfl rfl 7 (by decide) (hts (Cond.fieldLink RX2 146 "ShareDisk" "sliceLeft" "I") mwX2_takeFromSlice_0) (fun _ h9 => h9) rfl dX2_takeFromSlice_2 ?_
  refine lv_iload_n hx hb dX2_takeFromSlice_5 rfl (lv_at hl 1 rfl) ?_
  refine lv_isub hx hb dX2_takeFromSlice_6 ?_
  refine va_put (D := D) (ci := 2) (v := .int (le - z)) (ty := .int) (C := RX2) (T := TX2) (N := 8) hx hb hts iwX2_takeFromSlice_X2 tyX2 tyX2_ok nmX2 hown hK hP hD hS 0 rfl rfl 7 (by decide) (hts (Cond.fieldLink RX2 146 "ShareDisk" "sliceLeft" "I") mwX2_takeFromSlice_0) (fun _ h9 => h9) rfl (by decide +kernel) rfl rfl (Nat.le_of_ble_eq_true rfl) dX2_takeFromSlice_7 (fun H locs hP hD hS => ?_)
  have hP : va_P D vwCl (DkW d (cq 0) (rq 0) ck hd po st (nI o) (le - z) ++ (ClW cq k th co bu tg wa se ld ++ (RqW rq k ow wr fi sz dl wt bl sh so tn sn un))) H := hP
  have hD : va_D A (DkW d (cq 0) (rq 0) ck hd po st (nI o) (le - z) ++ (ClW cq k th co bu tg wa se ld ++ (RqW rq k ow wr fi sz dl wt bl sh so tn sn un))) := hD
  refine lv_aload_n hx hb dX2_takeFromSlice_10 rfl (lv_at hl 0 rfl) ?_
  refine va_get (D := D) (ci := 2) (v := .int (le - z)) (C := RX2) (T := TX2) (N := 8) hx hb hts iwX2_takeFromSlice_X2 hown hK hP 0 rfl rfl 7 (by decide) (hts (Cond.fieldLink RX2 146 "ShareDisk" "sliceLeft" "I") mwX2_takeFromSlice_0) (fun _ h9 => h9) rfl dX2_takeFromSlice_11 ?_
  refine lv_if_le (tgt := 31) hx hb dX2_takeFromSlice_14 (by decide) (fun c1 => ?_) (fun c1 => ?_)
  · refine lv_aload_n hx hb dX2_takeFromSlice_31 rfl (lv_at hl 0 rfl) ?_
    refine goVV0 hc (kX2_endSlice l D k d cq rq H.size ck hd po st (nI o) (le - z) th co bu tg wa se ld ow wr fi sz dl wt bl sh so tn sn un) (cwV 0 hts gX2_takeFromSlice_X2_endSlice rfl rfl rfl (by decide +kernel) ⟨(Nat.le_of_ble_eq_true rfl), (Nat.le_of_ble_eq_true rfl)⟩) hP hD hK hS hA (ci := 2) (q0 := 0) rfl rfl rfl hl.1 rfl (Nat.le_of_ble_eq_true rfl) dX2_takeFromSlice_32 (Nat.le_of_ble_eq_true rfl) (Nat.le_of_ble_eq_true rfl) (fun B9 H locs hq hP hD hS => ?_)
    subst hq
    have hP : va_P D vwCl (DkW d (cq 0) (rq 0) ck hd po st (-1) (nI 0) ++ (ClW cq k th co bu tg wa se ld ++ (RqW rq k ow wr fi sz dl wt bl sh so tn sn un))) H := hP
    have hD : va_D A (DkW d (cq 0) (rq 0) ck hd po st (-1) (nI 0) ++ (ClW cq k th co bu tg wa se ld ++ (RqW rq k ow wr fi sz dl wt bl sh so tn sn un))) := hD
    exact retV hc dX2_takeFromSlice_35 hK hP hD hS (by rw [if_pos (Or.inl c1), if_pos (Or.inl c1)]) (Nat.le_of_ble_eq_true rfl) (Nat.le_of_ble_eq_true rfl)
  · refine lv_aload_n hx hb dX2_takeFromSlice_17 rfl (lv_at hl 0 rfl) ?_
    refine va_get (D := D) (ci := 2) (v := .ref (cq 0)) (C := RX2) (T := TX2) (N := 8) hx hb hts iwX2_takeFromSlice_X2 hown hK hP 0 rfl rfl 0 (by decide) (hts (Cond.fieldLink RX2 10 "ShareDisk" "clients" "LShareDisk$Clients;") mwX2_takeFromSlice_1) (fun _ h9 => h9) rfl dX2_takeFromSlice_18 ?_
    refine lv_aload_n hx hb dX2_takeFromSlice_21 rfl (lv_at hl 0 rfl) ?_
    refine va_get (D := D) (ci := 2) (v := .int (nI o)) (C := RX2) (T := TX2) (N := 8) hx hb hts iwX2_takeFromSlice_X2 hown hK hP 0 rfl rfl 6 (by decide) (hts (Cond.fieldLink RX2 23 "ShareDisk" "sliceOwner" "I") mwX2_takeFromSlice_2) (fun _ h9 => h9) rfl dX2_takeFromSlice_22 ?_
    refine goVI hc (kX0_waitingOf l D k cq H.size th co bu tg wa se ld o (ho)) (cwV 1 hts gX2_takeFromSlice_X0_waitingOf rfl rfl rfl (by decide +kernel) ⟨(Nat.le_of_ble_eq_true rfl), (Nat.le_of_ble_eq_true rfl)⟩) hP hD hK hS hA (ci := 0) (q0 := 0) rfl rfl rfl hl.1 rfl (Nat.le_of_ble_eq_true rfl) dX2_takeFromSlice_25 (Nat.le_of_ble_eq_true rfl) (Nat.le_of_ble_eq_true rfl) (fun r9 B9 H locs hq hP hD hS => ?_)
    obtain ⟨hr9, rfl⟩ := hq
    subst hr9
    have hP : va_P D vwCl (DkW d (cq 0) (rq 0) ck hd po st (nI o) (le - z) ++ (ClW cq k th co bu tg wa se ld ++ (RqW rq k ow wr fi sz dl wt bl sh so tn sn un))) H := hP
    have hD : va_D A (DkW d (cq 0) (rq 0) ck hd po st (nI o) (le - z) ++ (ClW cq k th co bu tg wa se ld ++ (RqW rq k ow wr fi sz dl wt bl sh so tn sn un))) := hD
    refine lv_if_ne (tgt := 35) hx hb dX2_takeFromSlice_28 (by decide) (fun c2 => ?_) (fun c2 => ?_)
    · exact retV hc dX2_takeFromSlice_35 hK hP hD hS (by rw [if_neg (fun h => h.elim c1 c2), if_neg (fun h => h.elim c1 c2)]) (Nat.le_of_ble_eq_true rfl) (Nat.le_of_ble_eq_true rfl)
    · refine lv_aload_n hx hb dX2_takeFromSlice_31 rfl (lv_at hl 0 rfl) ?_
      refine goVV0 hc (kX2_endSlice l D k d cq rq H.size ck hd po st (nI o) (le - z) th co bu tg wa se ld ow wr fi sz dl wt bl sh so tn sn un) (cwV 0 hts gX2_takeFromSlice_X2_endSlice rfl rfl rfl (by decide +kernel) ⟨(Nat.le_of_ble_eq_true rfl), (Nat.le_of_ble_eq_true rfl)⟩) hP hD hK hS hA (ci := 2) (q0 := 0) rfl rfl rfl hl.1 rfl (Nat.le_of_ble_eq_true rfl) dX2_takeFromSlice_32 (Nat.le_of_ble_eq_true rfl) (Nat.le_of_ble_eq_true rfl) (fun B9 H locs hq hP hD hS => ?_)
      subst hq
      have hP : va_P D vwCl (DkW d (cq 0) (rq 0) ck hd po st (-1) (nI 0) ++ (ClW cq k th co bu tg wa se ld ++ (RqW rq k ow wr fi sz dl wt bl sh so tn sn un))) H := hP
      have hD : va_D A (DkW d (cq 0) (rq 0) ck hd po st (-1) (nI 0) ++ (ClW cq k th co bu tg wa se ld ++ (RqW rq k ow wr fi sz dl wt bl sh so tn sn un))) := hD
      exact retV hc dX2_takeFromSlice_35 hK hP hD hS (by rw [if_pos (Or.inr c2), if_pos (Or.inr c2)]) (Nat.le_of_ble_eq_true rfl) (Nat.le_of_ble_eq_true rfl)
theorem mwX2_beginSlice_0 : Cond.fieldLink RX2 10 "ShareDisk" "clients" "LShareDisk$Clients;" ∈ wsX2_beginSlice := by decide +kernel
theorem mwX2_beginSlice_1 : Cond.fieldLink RX2 23 "ShareDisk" "sliceOwner" "I" ∈ wsX2_beginSlice := by decide +kernel
theorem mwX2_beginSlice_2 : Cond.fieldLink RX2 146 "ShareDisk" "sliceLeft" "I" ∈ wsX2_beginSlice := by decide +kernel
theorem mwX2_beginSlice_3 : Cond.fieldLink RX2 38 "ShareDisk" "systemTag" "J" ∈ wsX2_beginSlice := by decide +kernel
theorem iwX2_beginSlice_X2 : ∀ w ∈ wsX20, w ∈ wsX2_beginSlice := by decide +kernel
set_option maxHeartbeats 4000000 in
set_option maxRecDepth 100000 in
theorem kX2_beginSlice (l : Launch) (D : va_G) (k : Nat → ClassId) (d : Nat) (cq : Nat → Nat) (rq : Nat → Nat) (zz : Nat) (ck : Int64) (hd : Int32) (po st : Int64) (sl le : Int32) (th co bu : Nat → Int32) (tg : Nat → Int64) (wa se : Nat → Int32) (ld : Nat → Nat → Int64) (ow wr fi sz : Nat → Int32) (dl : Nat → Int64) (wt bl sh so : Nat → Int32) (tn sn un : Nat) : MV l yX2_beginSlice wsX2_beginSlice ({ frames := 1, cells := 0, slots := 0, locals := 22 } : Room) D k (DkW d (cq 0) (rq 0) ck hd po st sl le ++ (ClW cq k th co bu tg wa se ld ++ (RqW rq k ow wr fi sz dl wt bl sh so tn sn un))) zz [.ref d] (fun w9 => w9 = DkW d (cq 0) (rq 0) ck hd po (oC (nit wa tg 8) st tg) (oC (nit wa tg 8) sl (fun j => nI j)) (oC (nit wa tg 8) le bu) ++ (ClW cq k th co bu tg wa se ld ++ (RqW rq k ow wr fi sz dl wt bl sh so tn sn un))) 0 0 := by
  refine bodyOf (Qc := fun A => QV D k (fun w9 => w9 = DkW d (cq 0) (rq 0) ck hd po (oC (nit wa tg 8) st tg) (oC (nit wa tg 8) sl (fun j => nI j)) (oC (nit wa tg 8) le bu) ++ (ClW cq k th co bu tg wa se ld ++ (RqW rq k ow wr fi sz dl wt bl sh so tn sn un))) A) (cc := cX2_beginSlice) (maxL := 2) (ret := none) (by decide) rfl (Nat.le_of_ble_eq_true rfl) ?_
  intro p e s m below meth c A ls hc hA hK hP hD hS hl
  obtain ⟨hx, hb, hml, hr, hts, hown, hlocks, hin⟩ := (show _ from hc)
  have hl : lv_has ls 2 [(0, .ref d)] := hl
  refine lv_aload_n hx hb dX2_beginSlice_0 rfl (lv_at hl 0 rfl) ?_
  refine va_get (D := D) (ci := 2) (v := .ref (cq 0)) (C := RX2) (T := TX2) (N := 8) hx hb hts iwX2_beginSlice_X2 hown hK hP 0 rfl rfl 0 (by decide) (hts (Cond.fieldLink RX2 10 "ShareDisk" "clients" "LShareDisk$Clients;") mwX2_beginSlice_0) (fun _ h9 => h9) rfl dX2_beginSlice_1 ?_
  refine goVI hc (kX0_nextInTurn l D k cq s.heap.size th co bu tg wa se ld) (cwV 0 hts gX2_beginSlice_X0_nextInTurn rfl rfl rfl (by decide +kernel) ⟨(Nat.le_of_ble_eq_true rfl), (Nat.le_of_ble_eq_true rfl)⟩) hP hD hK hS hA (ci := 0) (q0 := 0) rfl rfl rfl hl.1 rfl (Nat.le_of_ble_eq_true rfl) dX2_beginSlice_4 (Nat.le_of_ble_eq_true rfl) (Nat.le_of_ble_eq_true rfl) (fun r9 B9 H locs hq hP hD hS => ?_)
  obtain ⟨hr9, rfl⟩ := hq
  subst hr9
  obtain ⟨bt, ebt⟩ : ∃ z9, z9 = nit wa tg 8 := ⟨_, rfl⟩
  rw [← ebt]
  have hP : va_P D vwCl (DkW d (cq 0) (rq 0) ck hd po st sl le ++ (ClW cq k th co bu tg wa se ld ++ (RqW rq k ow wr fi sz dl wt bl sh so tn sn un))) H := hP
  have hD : va_D A (DkW d (cq 0) (rq 0) ck hd po st sl le ++ (ClW cq k th co bu tg wa se ld ++ (RqW rq k ow wr fi sz dl wt bl sh so tn sn un))) := hD
  refine lv_istore_n (lv' := [(1, .int (oI bt)), (0, .ref d)]) hx hb dX2_beginSlice_7 rfl hl (by decide) rfl (fun ls hl => ?_)
  rcases bt with _ | j
  · have hl : lv_has ls 2 [(1, .int (-1)), (0, .ref d)] := hl
    refine lv_iload_n hx hb dX2_beginSlice_8 rfl (lv_at hl 0 rfl) ?_
    refine lv_iconst (v := (-1)) hx hb dX2_beginSlice_9 (by decide) ?_
    refine lv_icmp_eq (tgt := 42) hx hb dX2_beginSlice_10 (by decide) (fun c1 => ?_) (fun c1 => False.elim (c1 rfl))
    exact retV hc dX2_beginSlice_42 hK hP hD hS (rfl) (Nat.le_of_ble_eq_true rfl) (Nat.le_of_ble_eq_true rfl)
  · have hl : lv_has ls 2 [(1, .int (nI j)), (0, .ref d)] := hl
    refine lv_iload_n hx hb dX2_beginSlice_8 rfl (lv_at hl 0 rfl) ?_
    refine lv_iconst (v := (-1)) hx hb dX2_beginSlice_9 (by decide) ?_
    refine lv_icmp_eq (tgt := 42) hx hb dX2_beginSlice_10 (by decide) (fun c2 => False.elim (nI_ne_m1 (show j < 2 ^ 31 by have := nit_lt _ _ ebt.symm; omega) c2)) (fun c2 => ?_)
    refine lv_aload_n hx hb dX2_beginSlice_13 rfl (lv_at hl 1 rfl) ?_
    refine lv_iload_n hx hb dX2_beginSlice_14 rfl (lv_at hl 0 rfl) ?_
    refine va_put (D := D) (ci := 2) (v := .int (nI j)) (ty := .int) (C := RX2) (T := TX2) (N := 8) hx hb hts iwX2_beginSlice_X2 tyX2 tyX2_ok nmX2 hown hK hP hD hS 0 rfl rfl 6 (by decide) (hts (Cond.fieldLink RX2 23 "ShareDisk" "sliceOwner" "I") mwX2_beginSlice_1) (fun _ h9 => h9) rfl (by decide +kernel) rfl rfl (Nat.le_of_ble_eq_true rfl) dX2_beginSlice_15 (fun H locs hP hD hS => ?_)
    have hP : va_P D vwCl (DkW d (cq 0) (rq 0) ck hd po st (nI j) le ++ (ClW cq k th co bu tg wa se ld ++ (RqW rq k ow wr fi sz dl wt bl sh so tn sn un))) H := hP
    have hD : va_D A (DkW d (cq 0) (rq 0) ck hd po st (nI j) le ++ (ClW cq k th co bu tg wa se ld ++ (RqW rq k ow wr fi sz dl wt bl sh so tn sn un))) := hD
    refine lv_aload_n hx hb dX2_beginSlice_18 rfl (lv_at hl 1 rfl) ?_
    refine lv_aload_n hx hb dX2_beginSlice_19 rfl (lv_at hl 1 rfl) ?_
    refine va_get (D := D) (ci := 2) (v := .ref (cq 0)) (C := RX2) (T := TX2) (N := 8) hx hb hts iwX2_beginSlice_X2 hown hK hP 0 rfl rfl 0 (by decide) (hts (Cond.fieldLink RX2 10 "ShareDisk" "clients" "LShareDisk$Clients;") mwX2_beginSlice_0) (fun _ h9 => h9) rfl dX2_beginSlice_20 ?_
    refine lv_iload_n hx hb dX2_beginSlice_23 rfl (lv_at hl 0 rfl) ?_
    refine goVI hc (kX0_budgetOf l D k cq H.size th co bu tg wa se ld j (nit_lt _ _ ebt.symm)) (cwV 1 hts gX2_beginSlice_X0_budgetOf rfl rfl rfl (by decide +kernel) ⟨(Nat.le_of_ble_eq_true rfl), (Nat.le_of_ble_eq_true rfl)⟩) hP hD hK hS hA (ci := 0) (q0 := 0) rfl rfl rfl hl.1 rfl (Nat.le_of_ble_eq_true rfl) dX2_beginSlice_24 (Nat.le_of_ble_eq_true rfl) (Nat.le_of_ble_eq_true rfl) (fun r9 B9 H locs hq hP hD hS => ?_)
    obtain ⟨hr9, rfl⟩ := hq
    subst hr9
    have hP : va_P D vwCl (DkW d (cq 0) (rq 0) ck hd po st (nI j) le ++ (ClW cq k th co bu tg wa se ld ++ (RqW rq k ow wr fi sz dl wt bl sh so tn sn un))) H := hP
    have hD : va_D A (DkW d (cq 0) (rq 0) ck hd po st (nI j) le ++ (ClW cq k th co bu tg wa se ld ++ (RqW rq k ow wr fi sz dl wt bl sh so tn sn un))) := hD
    refine va_put (D := D) (ci := 2) (v := .int (bu j)) (ty := .int) (C := RX2) (T := TX2) (N := 8) hx hb hts iwX2_beginSlice_X2 tyX2 tyX2_ok nmX2 hown hK hP hD hS 0 rfl rfl 7 (by decide) (hts (Cond.fieldLink RX2 146 "ShareDisk" "sliceLeft" "I") mwX2_beginSlice_2) (fun _ h9 => h9) rfl (by decide +kernel) rfl rfl (Nat.le_of_ble_eq_true rfl) dX2_beginSlice_27 (fun H locs hP hD hS => ?_)
    have hP : va_P D vwCl (DkW d (cq 0) (rq 0) ck hd po st (nI j) (bu j) ++ (ClW cq k th co bu tg wa se ld ++ (RqW rq k ow wr fi sz dl wt bl sh so tn sn un))) H := hP
    have hD : va_D A (DkW d (cq 0) (rq 0) ck hd po st (nI j) (bu j) ++ (ClW cq k th co bu tg wa se ld ++ (RqW rq k ow wr fi sz dl wt bl sh so tn sn un))) := hD
    refine lv_aload_n hx hb dX2_beginSlice_30 rfl (lv_at hl 1 rfl) ?_
    refine lv_aload_n hx hb dX2_beginSlice_31 rfl (lv_at hl 1 rfl) ?_
    refine va_get (D := D) (ci := 2) (v := .ref (cq 0)) (C := RX2) (T := TX2) (N := 8) hx hb hts iwX2_beginSlice_X2 hown hK hP 0 rfl rfl 0 (by decide) (hts (Cond.fieldLink RX2 10 "ShareDisk" "clients" "LShareDisk$Clients;") mwX2_beginSlice_0) (fun _ h9 => h9) rfl dX2_beginSlice_32 ?_
    refine lv_iload_n hx hb dX2_beginSlice_35 rfl (lv_at hl 0 rfl) ?_
    refine goVL hc (kX0_tagOf l D k cq H.size th co bu tg wa se ld j (nit_lt _ _ ebt.symm)) (cwV 1 hts gX2_beginSlice_X0_tagOf rfl rfl rfl (by decide +kernel) ⟨(Nat.le_of_ble_eq_true rfl), (Nat.le_of_ble_eq_true rfl)⟩) hP hD hK hS hA (ci := 0) (q0 := 0) rfl rfl rfl hl.1 rfl (Nat.le_of_ble_eq_true rfl) dX2_beginSlice_36 (Nat.le_of_ble_eq_true rfl) (Nat.le_of_ble_eq_true rfl) (fun r9 B9 H locs hq hP hD hS => ?_)
    obtain ⟨hr9, rfl⟩ := hq
    subst hr9
    have hP : va_P D vwCl (DkW d (cq 0) (rq 0) ck hd po st (nI j) (bu j) ++ (ClW cq k th co bu tg wa se ld ++ (RqW rq k ow wr fi sz dl wt bl sh so tn sn un))) H := hP
    have hD : va_D A (DkW d (cq 0) (rq 0) ck hd po st (nI j) (bu j) ++ (ClW cq k th co bu tg wa se ld ++ (RqW rq k ow wr fi sz dl wt bl sh so tn sn un))) := hD
    refine va_put (D := D) (ci := 2) (v := .long (tg j)) (ty := .long) (C := RX2) (T := TX2) (N := 8) hx hb hts iwX2_beginSlice_X2 tyX2 tyX2_ok nmX2 hown hK hP hD hS 0 rfl rfl 5 (by decide) (hts (Cond.fieldLink RX2 38 "ShareDisk" "systemTag" "J") mwX2_beginSlice_3) (fun _ h9 => h9) rfl (by decide +kernel) rfl rfl (Nat.le_of_ble_eq_true rfl) dX2_beginSlice_39 (fun H locs hP hD hS => ?_)
    have hP : va_P D vwCl (DkW d (cq 0) (rq 0) ck hd po (tg j) (nI j) (bu j) ++ (ClW cq k th co bu tg wa se ld ++ (RqW rq k ow wr fi sz dl wt bl sh so tn sn un))) H := hP
    have hD : va_D A (DkW d (cq 0) (rq 0) ck hd po (tg j) (nI j) (bu j) ++ (ClW cq k th co bu tg wa se ld ++ (RqW rq k ow wr fi sz dl wt bl sh so tn sn un))) := hD
    exact retV hc dX2_beginSlice_42 hK hP hD hS (rfl) (Nat.le_of_ble_eq_true rfl) (Nat.le_of_ble_eq_true rfl)
theorem mwX2_serve_0 : Cond.fieldLink RX2 19 "ShareDisk" "requests" "LShareDisk$Requests;" ∈ wsX2_serve := by decide +kernel
theorem mwX2_serve_1 : Cond.fieldLink RX2 10 "ShareDisk" "clients" "LShareDisk$Clients;" ∈ wsX2_serve := by decide +kernel
theorem mwX2_serve_2 : Cond.fieldLink RX2 23 "ShareDisk" "sliceOwner" "I" ∈ wsX2_serve := by decide +kernel
theorem mwX2_serve_3 : Cond.fieldLink RX2 38 "ShareDisk" "systemTag" "J" ∈ wsX2_serve := by decide +kernel
theorem iwX2_serve_X2 : ∀ w ∈ wsX20, w ∈ wsX2_serve := by decide +kernel
set_option maxHeartbeats 4000000 in
set_option maxRecDepth 100000 in
theorem kX2_serve (l : Launch) (D : va_G) (k : Nat → ClassId) (d : Nat) (cq : Nat → Nat) (rq : Nat → Nat) (zz : Nat) (ck : Int64) (hd : Int32) (po st : Int64) (sl le : Int32) (th co bu : Nat → Int32) (tg : Nat → Int64) (wa se : Nat → Int32) (ld : Nat → Nat → Int64) (ow wr fi sz : Nat → Int32) (dl : Nat → Int64) (wt bl sh so : Nat → Int32) (tn sn un : Nat) (t : Nat) (h : Int32) (o : Nat) (ht : t < tn) (htn : tn ≤ 500) (hsn : sn < tn) (ho : o < 8) (how : ow t = nI o) : MV l yX2_serve wsX2_serve ({ frames := 2, cells := 0, slots := 0, locals := 48 } : Room) D k (DkW d (cq 0) (rq 0) ck hd po st sl le ++ (ClW cq k th co bu tg wa se ld ++ (RqW rq k ow wr fi sz dl wt bl sh so tn sn un))) zz [.ref d, .int (nI t), .int h] (fun w9 => w9 = DkW d (cq 0) (rq 0) (ck + (abI (fi t - hd) / nI 100 + sz t).toInt64) (fi t + sz t) (po + (abI (fi t - hd)).toInt64) (if tn - (sn + 1) = 0 then gtF th (vp_updL tg o (tg o + (co o).toInt64 * (sz t).toInt64)) st 8 else st) (if nI o = sl then (if le - sz t ≤ 0 ∨ (upd wa o (wa o - nI 1)) o = 0 then (-1) else sl) else sl) (if nI o = sl then (if le - sz t ≤ 0 ∨ (upd wa o (wa o - nI 1)) o = 0 then nI 0 else le - sz t) else le) ++ (ClW cq k th co bu (vp_updL tg o (tg o + (co o).toInt64 * (sz t).toInt64)) (upd wa o (wa o - nI 1)) (upd se o (se o + sz t)) (nsL ld o ((co o).toInt64 * (sz t).toInt64) 8) ++ (RqW rq k ow wr fi sz dl (upd wt t (nI 0)) (msB ow wr fi sz bl t tn) (upd sh t h) (upd so sn (nI t)) tn (sn + 1) (if h = nI 3 then un + 1 else un)))) 0 0 := by
  refine bodyOf (Qc := fun A => QV D k (fun w9 => w9 = DkW d (cq 0) (rq 0) (ck + (abI (fi t - hd) / nI 100 + sz t).toInt64) (fi t + sz t) (po + (abI (fi t - hd)).toInt64) (if tn - (sn + 1) = 0 then gtF th (vp_updL tg o (tg o + (co o).toInt64 * (sz t).toInt64)) st 8 else st) (if nI o = sl then (if le - sz t ≤ 0 ∨ (upd wa o (wa o - nI 1)) o = 0 then (-1) else sl) else sl) (if nI o = sl then (if le - sz t ≤ 0 ∨ (upd wa o (wa o - nI 1)) o = 0 then nI 0 else le - sz t) else le) ++ (ClW cq k th co bu (vp_updL tg o (tg o + (co o).toInt64 * (sz t).toInt64)) (upd wa o (wa o - nI 1)) (upd se o (se o + sz t)) (nsL ld o ((co o).toInt64 * (sz t).toInt64) 8) ++ (RqW rq k ow wr fi sz dl (upd wt t (nI 0)) (msB ow wr fi sz bl t tn) (upd sh t h) (upd so sn (nI t)) tn (sn + 1) (if h = nI 3 then un + 1 else un)))) A) (cc := cX2_serve) (maxL := 5) (ret := none) (by decide) rfl (Nat.le_of_ble_eq_true rfl) ?_
  intro p e s m below meth c A ls hc hA hK hP hD hS hl
  obtain ⟨hx, hb, hml, hr, hts, hown, hlocks, hin⟩ := (show _ from hc)
  have hl : lv_has ls 5 [(0, .ref d), (1, .int (nI t)), (2, .int h)] := hl
  refine lv_aload_n hx hb dX2_serve_0 rfl (lv_at hl 0 rfl) ?_
  refine va_get (D := D) (ci := 2) (v := .ref (rq 0)) (C := RX2) (T := TX2) (N := 8) hx hb hts iwX2_serve_X2 hown hK hP 0 rfl rfl 1 (by decide) (hts (Cond.fieldLink RX2 19 "ShareDisk" "requests" "LShareDisk$Requests;") mwX2_serve_0) (fun _ h9 => h9) rfl dX2_serve_1 ?_
  refine lv_iload_n hx hb dX2_serve_4 rfl (lv_at hl 1 rfl) ?_
  refine goVI2 hc (kX1_ownerOf l D k rq s.heap.size ow wr fi sz dl wt bl sh so tn sn un t (by omega)) (cwV 1 hts gX2_serve_X1_ownerOf rfl rfl rfl (by decide +kernel) ⟨(Nat.le_of_ble_eq_true rfl), (Nat.le_of_ble_eq_true rfl)⟩) hP hD hK hS hA (ci := 1) (q0 := 0) rfl rfl rfl hl.1 rfl (Nat.le_of_ble_eq_true rfl) dX2_serve_5 (Nat.le_of_ble_eq_true rfl) (Nat.le_of_ble_eq_true rfl) (fun r9 B9 H locs hq hP hD hS => ?_)
  obtain ⟨hr9, rfl⟩ := hq
  subst hr9
  have hP : va_P D vwCl (DkW d (cq 0) (rq 0) ck hd po st sl le ++ (ClW cq k th co bu tg wa se ld ++ (RqW rq k ow wr fi sz dl wt bl sh so tn sn un))) H := hP
  have hD : va_D A (DkW d (cq 0) (rq 0) ck hd po st sl le ++ (ClW cq k th co bu tg wa se ld ++ (RqW rq k ow wr fi sz dl wt bl sh so tn sn un))) := hD
  rw [how]
  refine lv_istore_n (lv' := [(3, .int (nI o)), (0, .ref d), (1, .int (nI t)), (2, .int h)]) hx hb dX2_serve_8 rfl hl (by decide) rfl (fun ls hl => ?_)
  refine lv_aload_n hx hb dX2_serve_9 rfl (lv_at hl 1 rfl) ?_
  refine va_get (D := D) (ci := 2) (v := .ref (rq 0)) (C := RX2) (T := TX2) (N := 8) hx hb hts iwX2_serve_X2 hown hK hP 0 rfl rfl 1 (by decide) (hts (Cond.fieldLink RX2 19 "ShareDisk" "requests" "LShareDisk$Requests;") mwX2_serve_0) (fun _ h9 => h9) rfl dX2_serve_10 ?_
  refine lv_iload_n hx hb dX2_serve_13 rfl (lv_at hl 2 rfl) ?_
  refine goVI2 hc (kX1_sizeOf l D k rq H.size ow wr fi sz dl wt bl sh so tn sn un t (by omega)) (cwV 1 hts gX2_serve_X1_sizeOf rfl rfl rfl (by decide +kernel) ⟨(Nat.le_of_ble_eq_true rfl), (Nat.le_of_ble_eq_true rfl)⟩) hP hD hK hS hA (ci := 1) (q0 := 0) rfl rfl rfl hl.1 rfl (Nat.le_of_ble_eq_true rfl) dX2_serve_14 (Nat.le_of_ble_eq_true rfl) (Nat.le_of_ble_eq_true rfl) (fun r9 B9 H locs hq hP hD hS => ?_)
  obtain ⟨hr9, rfl⟩ := hq
  subst hr9
  have hP : va_P D vwCl (DkW d (cq 0) (rq 0) ck hd po st sl le ++ (ClW cq k th co bu tg wa se ld ++ (RqW rq k ow wr fi sz dl wt bl sh so tn sn un))) H := hP
  have hD : va_D A (DkW d (cq 0) (rq 0) ck hd po st sl le ++ (ClW cq k th co bu tg wa se ld ++ (RqW rq k ow wr fi sz dl wt bl sh so tn sn un))) := hD
  refine lv_istore (lv' := [(4, .int (sz t)), (3, .int (nI o)), (0, .ref d), (1, .int (nI t)), (2, .int h)]) hx hb dX2_serve_17 hl (by decide) rfl (fun ls hl => ?_)
  refine lv_aload_n hx hb dX2_serve_19 rfl (lv_at hl 2 rfl) ?_
  refine lv_aload_n hx hb dX2_serve_20 rfl (lv_at hl 2 rfl) ?_
  refine va_get (D := D) (ci := 2) (v := .ref (rq 0)) (C := RX2) (T := TX2) (N := 8) hx hb hts iwX2_serve_X2 hown hK hP 0 rfl rfl 1 (by decide) (hts (Cond.fieldLink RX2 19 "ShareDisk" "requests" "LShareDisk$Requests;") mwX2_serve_0) (fun _ h9 => h9) rfl dX2_serve_21 ?_
  refine lv_iload_n hx hb dX2_serve_24 rfl (lv_at hl 3 rfl) ?_
  refine goVI2 hc (kX1_firstOf l D k rq H.size ow wr fi sz dl wt bl sh so tn sn un t (by omega)) (cwV 1 hts gX2_serve_X1_firstOf rfl rfl rfl (by decide +kernel) ⟨(Nat.le_of_ble_eq_true rfl), (Nat.le_of_ble_eq_true rfl)⟩) hP hD hK hS hA (ci := 1) (q0 := 0) rfl rfl rfl hl.1 rfl (Nat.le_of_ble_eq_true rfl) dX2_serve_25 (Nat.le_of_ble_eq_true rfl) (Nat.le_of_ble_eq_true rfl) (fun r9 B9 H locs hq hP hD hS => ?_)
  obtain ⟨hr9, rfl⟩ := hq
  subst hr9
  have hP : va_P D vwCl (DkW d (cq 0) (rq 0) ck hd po st sl le ++ (ClW cq k th co bu tg wa se ld ++ (RqW rq k ow wr fi sz dl wt bl sh so tn sn un))) H := hP
  have hD : va_D A (DkW d (cq 0) (rq 0) ck hd po st sl le ++ (ClW cq k th co bu tg wa se ld ++ (RqW rq k ow wr fi sz dl wt bl sh so tn sn un))) := hD
  refine lv_iload hx hb dX2_serve_28 (lv_at hl 0 rfl) ?_
  refine goVV0 hc (kX2_moveHead l D k d cq rq H.size ck hd po st sl le th co bu tg wa se ld ow wr fi sz dl wt bl sh so tn sn un (fi t) (sz t)) (cwV 2 hts gX2_serve_X2_moveHead rfl rfl rfl (by decide +kernel) ⟨(Nat.le_of_ble_eq_true rfl), (Nat.le_of_ble_eq_true rfl)⟩) hP hD hK hS hA (ci := 2) (q0 := 0) rfl rfl rfl hl.1 rfl (Nat.le_of_ble_eq_true rfl) dX2_serve_30 (Nat.le_of_ble_eq_true rfl) (Nat.le_of_ble_eq_true rfl) (fun B9 H locs hq hP hD hS => ?_)
  subst hq
  have hP : va_P D vwCl (DkW d (cq 0) (rq 0) (ck + (abI ((fi t) - hd) / nI 100 + (sz t)).toInt64) ((fi t) + (sz t)) (po + (abI ((fi t) - hd)).toInt64) st sl le ++ (ClW cq k th co bu tg wa se ld ++ (RqW rq k ow wr fi sz dl wt bl sh so tn sn un))) H := hP
  have hD : va_D A (DkW d (cq 0) (rq 0) (ck + (abI ((fi t) - hd) / nI 100 + (sz t)).toInt64) ((fi t) + (sz t)) (po + (abI ((fi t) - hd)).toInt64) st sl le ++ (ClW cq k th co bu tg wa se ld ++ (RqW rq k ow wr fi sz dl wt bl sh so tn sn un))) := hD
  refine lv_aload_n hx hb dX2_serve_33 rfl (lv_at hl 2 rfl) ?_
  refine va_get (D := D) (ci := 2) (v := .ref (rq 0)) (C := RX2) (T := TX2) (N := 8) hx hb hts iwX2_serve_X2 hown hK hP 0 rfl rfl 1 (by decide) (hts (Cond.fieldLink RX2 19 "ShareDisk" "requests" "LShareDisk$Requests;") mwX2_serve_0) (fun _ h9 => h9) rfl dX2_serve_34 ?_
  refine lv_iload_n hx hb dX2_serve_37 rfl (lv_at hl 3 rfl) ?_
  refine lv_iload_n hx hb dX2_serve_38 rfl (lv_at hl 4 rfl) ?_
  refine goVV2 hc (kX1_markServed l D k rq H.size ow wr fi sz dl wt bl sh so tn sn un t h (by omega) (htn) (by omega)) (cwV 2 hts gX2_serve_X1_markServed rfl rfl rfl (by decide +kernel) ⟨(Nat.le_of_ble_eq_true rfl), (Nat.le_of_ble_eq_true rfl)⟩) hP hD hK hS hA (ci := 1) (q0 := 0) rfl rfl rfl hl.1 rfl (Nat.le_of_ble_eq_true rfl) dX2_serve_39 (Nat.le_of_ble_eq_true rfl) (Nat.le_of_ble_eq_true rfl) (fun B9 H locs hq hP hD hS => ?_)
  subst hq
  have hP : va_P D vwCl (DkW d (cq 0) (rq 0) (ck + (abI ((fi t) - hd) / nI 100 + (sz t)).toInt64) ((fi t) + (sz t)) (po + (abI ((fi t) - hd)).toInt64) st sl le ++ (ClW cq k th co bu tg wa se ld ++ (RqW rq k ow wr fi sz dl (upd wt t (nI 0)) (msB ow wr fi sz bl t tn) (upd sh t h) (upd so sn (nI t)) tn (sn + 1) (if h = nI 3 then un + 1 else un)))) H := hP
  have hD : va_D A (DkW d (cq 0) (rq 0) (ck + (abI ((fi t) - hd) / nI 100 + (sz t)).toInt64) ((fi t) + (sz t)) (po + (abI ((fi t) - hd)).toInt64) st sl le ++ (ClW cq k th co bu tg wa se ld ++ (RqW rq k ow wr fi sz dl (upd wt t (nI 0)) (msB ow wr fi sz bl t tn) (upd sh t h) (upd so sn (nI t)) tn (sn + 1) (if h = nI 3 then un + 1 else un)))) := hD
  refine lv_aload_n hx hb dX2_serve_42 rfl (lv_at hl 2 rfl) ?_
  refine va_get (D := D) (ci := 2) (v := .ref (cq 0)) (C := RX2) (T := TX2) (N := 8) hx hb hts iwX2_serve_X2 hown hK hP 0 rfl rfl 0 (by decide) (hts (Cond.fieldLink RX2 10 "ShareDisk" "clients" "LShareDisk$Clients;") mwX2_serve_1) (fun _ h9 => h9) rfl dX2_serve_43 ?_
  refine lv_iload_n hx hb dX2_serve_46 rfl (lv_at hl 1 rfl) ?_
  refine lv_iload hx hb dX2_serve_47 (lv_at hl 0 rfl) ?_
  refine goVV hc (kX0_noteService l D k cq H.size th co bu tg wa se ld o (sz t) (ho)) (cwV 2 hts gX2_serve_X0_noteService rfl rfl rfl (by decide +kernel) ⟨(Nat.le_of_ble_eq_true rfl), (Nat.le_of_ble_eq_true rfl)⟩) hP hD hK hS hA (ci := 0) (q0 := 0) rfl rfl rfl hl.1 rfl (Nat.le_of_ble_eq_true rfl) dX2_serve_49 (Nat.le_of_ble_eq_true rfl) (Nat.le_of_ble_eq_true rfl) (fun B9 H locs hq hP hD hS => ?_)
  subst hq
  have hP : va_P D vwCl (DkW d (cq 0) (rq 0) (ck + (abI ((fi t) - hd) / nI 100 + (sz t)).toInt64) ((fi t) + (sz t)) (po + (abI ((fi t) - hd)).toInt64) st sl le ++ (ClW cq k th co bu (vp_updL tg o (tg o + (co o).toInt64 * (sz t).toInt64)) (upd wa o (wa o - nI 1)) (upd se o (se o + (sz t))) (nsL ld o ((co o).toInt64 * (sz t).toInt64) 8) ++ (RqW rq k ow wr fi sz dl (upd wt t (nI 0)) (msB ow wr fi sz bl t tn) (upd sh t h) (upd so sn (nI t)) tn (sn + 1) (if h = nI 3 then un + 1 else un)))) H := hP
  have hD : va_D A (DkW d (cq 0) (rq 0) (ck + (abI ((fi t) - hd) / nI 100 + (sz t)).toInt64) ((fi t) + (sz t)) (po + (abI ((fi t) - hd)).toInt64) st sl le ++ (ClW cq k th co bu (vp_updL tg o (tg o + (co o).toInt64 * (sz t).toInt64)) (upd wa o (wa o - nI 1)) (upd se o (se o + (sz t))) (nsL ld o ((co o).toInt64 * (sz t).toInt64) 8) ++ (RqW rq k ow wr fi sz dl (upd wt t (nI 0)) (msB ow wr fi sz bl t tn) (upd sh t h) (upd so sn (nI t)) tn (sn + 1) (if h = nI 3 then un + 1 else un)))) := hD
  refine lv_iload_n hx hb dX2_serve_52 rfl (lv_at hl 1 rfl) ?_
  refine lv_aload_n hx hb dX2_serve_53 rfl (lv_at hl 2 rfl) ?_
  refine va_get (D := D) (ci := 2) (v := .int sl) (C := RX2) (T := TX2) (N := 8) hx hb hts iwX2_serve_X2 hown hK hP 0 rfl rfl 6 (by decide) (hts (Cond.fieldLink RX2 23 "ShareDisk" "sliceOwner" "I") mwX2_serve_2) (fun _ h9 => h9) rfl dX2_serve_54 ?_
  refine lv_icmp_ne (tgt := 66) hx hb dX2_serve_57 (by decide) (fun c1 => ?_) (fun c1 => ?_)
  · refine lv_aload_n hx hb dX2_serve_66 rfl (lv_at hl 2 rfl) ?_
    refine va_get (D := D) (ci := 2) (v := .ref (rq 0)) (C := RX2) (T := TX2) (N := 8) hx hb hts iwX2_serve_X2 hown hK hP 0 rfl rfl 1 (by decide) (hts (Cond.fieldLink RX2 19 "ShareDisk" "requests" "LShareDisk$Requests;") mwX2_serve_0) (fun _ h9 => h9) rfl dX2_serve_67 ?_
    refine goVI2 hc (kX1_waiting l D k rq H.size ow wr fi sz dl (upd wt t (nI 0)) (msB ow wr fi sz bl t tn) (upd sh t h) (upd so sn (nI t)) tn (sn + 1) (if h = nI 3 then un + 1 else un) (by omega)) (cwV 0 hts gX2_serve_X1_waiting rfl rfl rfl (by decide +kernel) ⟨(Nat.le_of_ble_eq_true rfl), (Nat.le_of_ble_eq_true rfl)⟩) hP hD hK hS hA (ci := 1) (q0 := 0) rfl rfl rfl hl.1 rfl (Nat.le_of_ble_eq_true rfl) dX2_serve_70 (Nat.le_of_ble_eq_true rfl) (Nat.le_of_ble_eq_true rfl) (fun r9 B9 H locs hq hP hD hS => ?_)
    obtain ⟨hr9, rfl⟩ := hq
    subst hr9
    have hP : va_P D vwCl (DkW d (cq 0) (rq 0) (ck + (abI ((fi t) - hd) / nI 100 + (sz t)).toInt64) ((fi t) + (sz t)) (po + (abI ((fi t) - hd)).toInt64) st sl le ++ (ClW cq k th co bu (vp_updL tg o (tg o + (co o).toInt64 * (sz t).toInt64)) (upd wa o (wa o - nI 1)) (upd se o (se o + (sz t))) (nsL ld o ((co o).toInt64 * (sz t).toInt64) 8) ++ (RqW rq k ow wr fi sz dl (upd wt t (nI 0)) (msB ow wr fi sz bl t tn) (upd sh t h) (upd so sn (nI t)) tn (sn + 1) (if h = nI 3 then un + 1 else un)))) H := hP
    have hD : va_D A (DkW d (cq 0) (rq 0) (ck + (abI ((fi t) - hd) / nI 100 + (sz t)).toInt64) ((fi t) + (sz t)) (po + (abI ((fi t) - hd)).toInt64) st sl le ++ (ClW cq k th co bu (vp_updL tg o (tg o + (co o).toInt64 * (sz t).toInt64)) (upd wa o (wa o - nI 1)) (upd se o (se o + (sz t))) (nsL ld o ((co o).toInt64 * (sz t).toInt64) 8) ++ (RqW rq k ow wr fi sz dl (upd wt t (nI 0)) (msB ow wr fi sz bl t tn) (upd sh t h) (upd so sn (nI t)) tn (sn + 1) (if h = nI 3 then un + 1 else un)))) := hD
    refine lv_if_ne (tgt := 91) hx hb dX2_serve_73 (by decide) (fun c2 => ?_) (fun c2 => ?_)
    · have hz9 : ¬ tn - (sn + 1) = 0 := fun h9 => c2 (by rw [h9]; rfl)
      exact retV hc dX2_serve_91 hK hP hD hS (by rw [if_neg hz9, if_neg c1, if_neg c1]) (Nat.le_of_ble_eq_true rfl) (Nat.le_of_ble_eq_true rfl)
    · refine lv_aload_n hx hb dX2_serve_76 rfl (lv_at hl 2 rfl) ?_
      refine lv_aload_n hx hb dX2_serve_77 rfl (lv_at hl 2 rfl) ?_
      refine va_get (D := D) (ci := 2) (v := .ref (cq 0)) (C := RX2) (T := TX2) (N := 8) hx hb hts iwX2_serve_X2 hown hK hP 0 rfl rfl 0 (by decide) (hts (Cond.fieldLink RX2 10 "ShareDisk" "clients" "LShareDisk$Clients;") mwX2_serve_1) (fun _ h9 => h9) rfl dX2_serve_78 ?_
      refine lv_aload_n hx hb dX2_serve_81 rfl (lv_at hl 2 rfl) ?_
      refine va_get (D := D) (ci := 2) (v := .long st) (C := RX2) (T := TX2) (N := 8) hx hb hts iwX2_serve_X2 hown hK hP 0 rfl rfl 5 (by decide) (hts (Cond.fieldLink RX2 38 "ShareDisk" "systemTag" "J") mwX2_serve_3) (fun _ h9 => h9) rfl dX2_serve_82 ?_
      refine goVL hc (kX0_greatestTag l D k cq H.size th co bu (vp_updL tg o (tg o + (co o).toInt64 * (sz t).toInt64)) (upd wa o (wa o - nI 1)) (upd se o (se o + (sz t))) (nsL ld o ((co o).toInt64 * (sz t).toInt64) 8) st) (cwV 1 hts gX2_serve_X0_greatestTag rfl rfl rfl (by decide +kernel) ⟨(Nat.le_of_ble_eq_true rfl), (Nat.le_of_ble_eq_true rfl)⟩) hP hD hK hS hA (ci := 0) (q0 := 0) rfl rfl rfl hl.1 rfl (Nat.le_of_ble_eq_true rfl) dX2_serve_85 (Nat.le_of_ble_eq_true rfl) (Nat.le_of_ble_eq_true rfl) (fun r9 B9 H locs hq hP hD hS => ?_)
      obtain ⟨hr9, rfl⟩ := hq
      subst hr9
      have hP : va_P D vwCl (DkW d (cq 0) (rq 0) (ck + (abI ((fi t) - hd) / nI 100 + (sz t)).toInt64) ((fi t) + (sz t)) (po + (abI ((fi t) - hd)).toInt64) st sl le ++ (ClW cq k th co bu (vp_updL tg o (tg o + (co o).toInt64 * (sz t).toInt64)) (upd wa o (wa o - nI 1)) (upd se o (se o + (sz t))) (nsL ld o ((co o).toInt64 * (sz t).toInt64) 8) ++ (RqW rq k ow wr fi sz dl (upd wt t (nI 0)) (msB ow wr fi sz bl t tn) (upd sh t h) (upd so sn (nI t)) tn (sn + 1) (if h = nI 3 then un + 1 else un)))) H := hP
      have hD : va_D A (DkW d (cq 0) (rq 0) (ck + (abI ((fi t) - hd) / nI 100 + (sz t)).toInt64) ((fi t) + (sz t)) (po + (abI ((fi t) - hd)).toInt64) st sl le ++ (ClW cq k th co bu (vp_updL tg o (tg o + (co o).toInt64 * (sz t).toInt64)) (upd wa o (wa o - nI 1)) (upd se o (se o + (sz t))) (nsL ld o ((co o).toInt64 * (sz t).toInt64) 8) ++ (RqW rq k ow wr fi sz dl (upd wt t (nI 0)) (msB ow wr fi sz bl t tn) (upd sh t h) (upd so sn (nI t)) tn (sn + 1) (if h = nI 3 then un + 1 else un)))) := hD
      refine va_put (D := D) (ci := 2) (v := .long (gtF th (vp_updL tg o (tg o + (co o).toInt64 * (sz t).toInt64)) st 8)) (ty := .long) (C := RX2) (T := TX2) (N := 8) hx hb hts iwX2_serve_X2 tyX2 tyX2_ok nmX2 hown hK hP hD hS 0 rfl rfl 5 (by decide) (hts (Cond.fieldLink RX2 38 "ShareDisk" "systemTag" "J") mwX2_serve_3) (fun _ h9 => h9) rfl (by decide +kernel) rfl rfl (Nat.le_of_ble_eq_true rfl) dX2_serve_88 (fun H locs hP hD hS => ?_)
      have hP : va_P D vwCl (DkW d (cq 0) (rq 0) (ck + (abI ((fi t) - hd) / nI 100 + (sz t)).toInt64) ((fi t) + (sz t)) (po + (abI ((fi t) - hd)).toInt64) (gtF th (vp_updL tg o (tg o + (co o).toInt64 * (sz t).toInt64)) st 8) sl le ++ (ClW cq k th co bu (vp_updL tg o (tg o + (co o).toInt64 * (sz t).toInt64)) (upd wa o (wa o - nI 1)) (upd se o (se o + (sz t))) (nsL ld o ((co o).toInt64 * (sz t).toInt64) 8) ++ (RqW rq k ow wr fi sz dl (upd wt t (nI 0)) (msB ow wr fi sz bl t tn) (upd sh t h) (upd so sn (nI t)) tn (sn + 1) (if h = nI 3 then un + 1 else un)))) H := hP
      have hD : va_D A (DkW d (cq 0) (rq 0) (ck + (abI ((fi t) - hd) / nI 100 + (sz t)).toInt64) ((fi t) + (sz t)) (po + (abI ((fi t) - hd)).toInt64) (gtF th (vp_updL tg o (tg o + (co o).toInt64 * (sz t).toInt64)) st 8) sl le ++ (ClW cq k th co bu (vp_updL tg o (tg o + (co o).toInt64 * (sz t).toInt64)) (upd wa o (wa o - nI 1)) (upd se o (se o + (sz t))) (nsL ld o ((co o).toInt64 * (sz t).toInt64) 8) ++ (RqW rq k ow wr fi sz dl (upd wt t (nI 0)) (msB ow wr fi sz bl t tn) (upd sh t h) (upd so sn (nI t)) tn (sn + 1) (if h = nI 3 then un + 1 else un)))) := hD
      have hz9 : tn - (sn + 1) = 0 := (nI_eq (a := tn - (sn + 1)) (b := 0) (by omega) (by decide)).mp c2
      exact retV hc dX2_serve_91 hK hP hD hS (by rw [if_pos hz9, if_neg c1, if_neg c1]) (Nat.le_of_ble_eq_true rfl) (Nat.le_of_ble_eq_true rfl)
  · refine lv_aload_n hx hb dX2_serve_60 rfl (lv_at hl 2 rfl) ?_
    refine lv_iload hx hb dX2_serve_61 (lv_at hl 0 rfl) ?_
    refine goVV0 hc (kX2_takeFromSlice l D k d cq rq H.size (ck + (abI ((fi t) - hd) / nI 100 + (sz t)).toInt64) ((fi t) + (sz t)) (po + (abI ((fi t) - hd)).toInt64) st sl le th co bu (vp_updL tg o (tg o + (co o).toInt64 * (sz t).toInt64)) (upd wa o (wa o - nI 1)) (upd se o (se o + (sz t))) (nsL ld o ((co o).toInt64 * (sz t).toInt64) 8) ow wr fi sz dl (upd wt t (nI 0)) (msB ow wr fi sz bl t tn) (upd sh t h) (upd so sn (nI t)) tn (sn + 1) (if h = nI 3 then un + 1 else un) (sz t) o (ho) (c1.symm)) (cwV 1 hts gX2_serve_X2_takeFromSlice rfl rfl rfl (by decide +kernel) ⟨(Nat.le_of_ble_eq_true rfl), (Nat.le_of_ble_eq_true rfl)⟩) hP hD hK hS hA (ci := 2) (q0 := 0) rfl rfl rfl hl.1 rfl (Nat.le_of_ble_eq_true rfl) dX2_serve_63 (Nat.le_of_ble_eq_true rfl) (Nat.le_of_ble_eq_true rfl) (fun B9 H locs hq hP hD hS => ?_)
    subst hq
    have hP : va_P D vwCl (DkW d (cq 0) (rq 0) (ck + (abI ((fi t) - hd) / nI 100 + (sz t)).toInt64) ((fi t) + (sz t)) (po + (abI ((fi t) - hd)).toInt64) st (if le - (sz t) ≤ 0 ∨ (upd wa o (wa o - nI 1)) o = 0 then (-1) else sl) (if le - (sz t) ≤ 0 ∨ (upd wa o (wa o - nI 1)) o = 0 then nI 0 else le - (sz t)) ++ (ClW cq k th co bu (vp_updL tg o (tg o + (co o).toInt64 * (sz t).toInt64)) (upd wa o (wa o - nI 1)) (upd se o (se o + (sz t))) (nsL ld o ((co o).toInt64 * (sz t).toInt64) 8) ++ (RqW rq k ow wr fi sz dl (upd wt t (nI 0)) (msB ow wr fi sz bl t tn) (upd sh t h) (upd so sn (nI t)) tn (sn + 1) (if h = nI 3 then un + 1 else un)))) H := hP
    have hD : va_D A (DkW d (cq 0) (rq 0) (ck + (abI ((fi t) - hd) / nI 100 + (sz t)).toInt64) ((fi t) + (sz t)) (po + (abI ((fi t) - hd)).toInt64) st (if le - (sz t) ≤ 0 ∨ (upd wa o (wa o - nI 1)) o = 0 then (-1) else sl) (if le - (sz t) ≤ 0 ∨ (upd wa o (wa o - nI 1)) o = 0 then nI 0 else le - (sz t)) ++ (ClW cq k th co bu (vp_updL tg o (tg o + (co o).toInt64 * (sz t).toInt64)) (upd wa o (wa o - nI 1)) (upd se o (se o + (sz t))) (nsL ld o ((co o).toInt64 * (sz t).toInt64) 8) ++ (RqW rq k ow wr fi sz dl (upd wt t (nI 0)) (msB ow wr fi sz bl t tn) (upd sh t h) (upd so sn (nI t)) tn (sn + 1) (if h = nI 3 then un + 1 else un)))) := hD
    refine lv_aload_n hx hb dX2_serve_66 rfl (lv_at hl 2 rfl) ?_
    refine va_get (D := D) (ci := 2) (v := .ref (rq 0)) (C := RX2) (T := TX2) (N := 8) hx hb hts iwX2_serve_X2 hown hK hP 0 rfl rfl 1 (by decide) (hts (Cond.fieldLink RX2 19 "ShareDisk" "requests" "LShareDisk$Requests;") mwX2_serve_0) (fun _ h9 => h9) rfl dX2_serve_67 ?_
    refine goVI2 hc (kX1_waiting l D k rq H.size ow wr fi sz dl (upd wt t (nI 0)) (msB ow wr fi sz bl t tn) (upd sh t h) (upd so sn (nI t)) tn (sn + 1) (if h = nI 3 then un + 1 else un) (by omega)) (cwV 0 hts gX2_serve_X1_waiting rfl rfl rfl (by decide +kernel) ⟨(Nat.le_of_ble_eq_true rfl), (Nat.le_of_ble_eq_true rfl)⟩) hP hD hK hS hA (ci := 1) (q0 := 0) rfl rfl rfl hl.1 rfl (Nat.le_of_ble_eq_true rfl) dX2_serve_70 (Nat.le_of_ble_eq_true rfl) (Nat.le_of_ble_eq_true rfl) (fun r9 B9 H locs hq hP hD hS => ?_)
    obtain ⟨hr9, rfl⟩ := hq
    subst hr9
    have hP : va_P D vwCl (DkW d (cq 0) (rq 0) (ck + (abI ((fi t) - hd) / nI 100 + (sz t)).toInt64) ((fi t) + (sz t)) (po + (abI ((fi t) - hd)).toInt64) st (if le - (sz t) ≤ 0 ∨ (upd wa o (wa o - nI 1)) o = 0 then (-1) else sl) (if le - (sz t) ≤ 0 ∨ (upd wa o (wa o - nI 1)) o = 0 then nI 0 else le - (sz t)) ++ (ClW cq k th co bu (vp_updL tg o (tg o + (co o).toInt64 * (sz t).toInt64)) (upd wa o (wa o - nI 1)) (upd se o (se o + (sz t))) (nsL ld o ((co o).toInt64 * (sz t).toInt64) 8) ++ (RqW rq k ow wr fi sz dl (upd wt t (nI 0)) (msB ow wr fi sz bl t tn) (upd sh t h) (upd so sn (nI t)) tn (sn + 1) (if h = nI 3 then un + 1 else un)))) H := hP
    have hD : va_D A (DkW d (cq 0) (rq 0) (ck + (abI ((fi t) - hd) / nI 100 + (sz t)).toInt64) ((fi t) + (sz t)) (po + (abI ((fi t) - hd)).toInt64) st (if le - (sz t) ≤ 0 ∨ (upd wa o (wa o - nI 1)) o = 0 then (-1) else sl) (if le - (sz t) ≤ 0 ∨ (upd wa o (wa o - nI 1)) o = 0 then nI 0 else le - (sz t)) ++ (ClW cq k th co bu (vp_updL tg o (tg o + (co o).toInt64 * (sz t).toInt64)) (upd wa o (wa o - nI 1)) (upd se o (se o + (sz t))) (nsL ld o ((co o).toInt64 * (sz t).toInt64) 8) ++ (RqW rq k ow wr fi sz dl (upd wt t (nI 0)) (msB ow wr fi sz bl t tn) (upd sh t h) (upd so sn (nI t)) tn (sn + 1) (if h = nI 3 then un + 1 else un)))) := hD
    refine lv_if_ne (tgt := 91) hx hb dX2_serve_73 (by decide) (fun c3 => ?_) (fun c3 => ?_)
    · have hz9 : ¬ tn - (sn + 1) = 0 := fun h9 => c3 (by rw [h9]; rfl)
      exact retV hc dX2_serve_91 hK hP hD hS (by rw [if_neg hz9, if_pos c1, if_pos c1]) (Nat.le_of_ble_eq_true rfl) (Nat.le_of_ble_eq_true rfl)
    · refine lv_aload_n hx hb dX2_serve_76 rfl (lv_at hl 2 rfl) ?_
      refine lv_aload_n hx hb dX2_serve_77 rfl (lv_at hl 2 rfl) ?_
      refine va_get (D := D) (ci := 2) (v := .ref (cq 0)) (C := RX2) (T := TX2) (N := 8) hx hb hts iwX2_serve_X2 hown hK hP 0 rfl rfl 0 (by decide) (hts (Cond.fieldLink RX2 10 "ShareDisk" "clients" "LShareDisk$Clients;") mwX2_serve_1) (fun _ h9 => h9) rfl dX2_serve_78 ?_
      refine lv_aload_n hx hb dX2_serve_81 rfl (lv_at hl 2 rfl) ?_
      refine va_get (D := D) (ci := 2) (v := .long st) (C := RX2) (T := TX2) (N := 8) hx hb hts iwX2_serve_X2 hown hK hP 0 rfl rfl 5 (by decide) (hts (Cond.fieldLink RX2 38 "ShareDisk" "systemTag" "J") mwX2_serve_3) (fun _ h9 => h9) rfl dX2_serve_82 ?_
      refine goVL hc (kX0_greatestTag l D k cq H.size th co bu (vp_updL tg o (tg o + (co o).toInt64 * (sz t).toInt64)) (upd wa o (wa o - nI 1)) (upd se o (se o + (sz t))) (nsL ld o ((co o).toInt64 * (sz t).toInt64) 8) st) (cwV 1 hts gX2_serve_X0_greatestTag rfl rfl rfl (by decide +kernel) ⟨(Nat.le_of_ble_eq_true rfl), (Nat.le_of_ble_eq_true rfl)⟩) hP hD hK hS hA (ci := 0) (q0 := 0) rfl rfl rfl hl.1 rfl (Nat.le_of_ble_eq_true rfl) dX2_serve_85 (Nat.le_of_ble_eq_true rfl) (Nat.le_of_ble_eq_true rfl) (fun r9 B9 H locs hq hP hD hS => ?_)
      obtain ⟨hr9, rfl⟩ := hq
      subst hr9
      have hP : va_P D vwCl (DkW d (cq 0) (rq 0) (ck + (abI ((fi t) - hd) / nI 100 + (sz t)).toInt64) ((fi t) + (sz t)) (po + (abI ((fi t) - hd)).toInt64) st (if le - (sz t) ≤ 0 ∨ (upd wa o (wa o - nI 1)) o = 0 then (-1) else sl) (if le - (sz t) ≤ 0 ∨ (upd wa o (wa o - nI 1)) o = 0 then nI 0 else le - (sz t)) ++ (ClW cq k th co bu (vp_updL tg o (tg o + (co o).toInt64 * (sz t).toInt64)) (upd wa o (wa o - nI 1)) (upd se o (se o + (sz t))) (nsL ld o ((co o).toInt64 * (sz t).toInt64) 8) ++ (RqW rq k ow wr fi sz dl (upd wt t (nI 0)) (msB ow wr fi sz bl t tn) (upd sh t h) (upd so sn (nI t)) tn (sn + 1) (if h = nI 3 then un + 1 else un)))) H := hP
      have hD : va_D A (DkW d (cq 0) (rq 0) (ck + (abI ((fi t) - hd) / nI 100 + (sz t)).toInt64) ((fi t) + (sz t)) (po + (abI ((fi t) - hd)).toInt64) st (if le - (sz t) ≤ 0 ∨ (upd wa o (wa o - nI 1)) o = 0 then (-1) else sl) (if le - (sz t) ≤ 0 ∨ (upd wa o (wa o - nI 1)) o = 0 then nI 0 else le - (sz t)) ++ (ClW cq k th co bu (vp_updL tg o (tg o + (co o).toInt64 * (sz t).toInt64)) (upd wa o (wa o - nI 1)) (upd se o (se o + (sz t))) (nsL ld o ((co o).toInt64 * (sz t).toInt64) 8) ++ (RqW rq k ow wr fi sz dl (upd wt t (nI 0)) (msB ow wr fi sz bl t tn) (upd sh t h) (upd so sn (nI t)) tn (sn + 1) (if h = nI 3 then un + 1 else un)))) := hD
      refine va_put (D := D) (ci := 2) (v := .long (gtF th (vp_updL tg o (tg o + (co o).toInt64 * (sz t).toInt64)) st 8)) (ty := .long) (C := RX2) (T := TX2) (N := 8) hx hb hts iwX2_serve_X2 tyX2 tyX2_ok nmX2 hown hK hP hD hS 0 rfl rfl 5 (by decide) (hts (Cond.fieldLink RX2 38 "ShareDisk" "systemTag" "J") mwX2_serve_3) (fun _ h9 => h9) rfl (by decide +kernel) rfl rfl (Nat.le_of_ble_eq_true rfl) dX2_serve_88 (fun H locs hP hD hS => ?_)
      have hP : va_P D vwCl (DkW d (cq 0) (rq 0) (ck + (abI ((fi t) - hd) / nI 100 + (sz t)).toInt64) ((fi t) + (sz t)) (po + (abI ((fi t) - hd)).toInt64) (gtF th (vp_updL tg o (tg o + (co o).toInt64 * (sz t).toInt64)) st 8) (if le - (sz t) ≤ 0 ∨ (upd wa o (wa o - nI 1)) o = 0 then (-1) else sl) (if le - (sz t) ≤ 0 ∨ (upd wa o (wa o - nI 1)) o = 0 then nI 0 else le - (sz t)) ++ (ClW cq k th co bu (vp_updL tg o (tg o + (co o).toInt64 * (sz t).toInt64)) (upd wa o (wa o - nI 1)) (upd se o (se o + (sz t))) (nsL ld o ((co o).toInt64 * (sz t).toInt64) 8) ++ (RqW rq k ow wr fi sz dl (upd wt t (nI 0)) (msB ow wr fi sz bl t tn) (upd sh t h) (upd so sn (nI t)) tn (sn + 1) (if h = nI 3 then un + 1 else un)))) H := hP
      have hD : va_D A (DkW d (cq 0) (rq 0) (ck + (abI ((fi t) - hd) / nI 100 + (sz t)).toInt64) ((fi t) + (sz t)) (po + (abI ((fi t) - hd)).toInt64) (gtF th (vp_updL tg o (tg o + (co o).toInt64 * (sz t).toInt64)) st 8) (if le - (sz t) ≤ 0 ∨ (upd wa o (wa o - nI 1)) o = 0 then (-1) else sl) (if le - (sz t) ≤ 0 ∨ (upd wa o (wa o - nI 1)) o = 0 then nI 0 else le - (sz t)) ++ (ClW cq k th co bu (vp_updL tg o (tg o + (co o).toInt64 * (sz t).toInt64)) (upd wa o (wa o - nI 1)) (upd se o (se o + (sz t))) (nsL ld o ((co o).toInt64 * (sz t).toInt64) 8) ++ (RqW rq k ow wr fi sz dl (upd wt t (nI 0)) (msB ow wr fi sz bl t tn) (upd sh t h) (upd so sn (nI t)) tn (sn + 1) (if h = nI 3 then un + 1 else un)))) := hD
      have hz9 : tn - (sn + 1) = 0 := (nI_eq (a := tn - (sn + 1)) (b := 0) (by omega) (by decide)).mp c3
      exact retV hc dX2_serve_91 hK hP hD hS (by rw [if_pos hz9, if_pos c1, if_pos c1]) (Nat.le_of_ble_eq_true rfl) (Nat.le_of_ble_eq_true rfl)
/-- the world behind a service -/
def svW (d : Nat) (cq rq : Nat → Nat) (k : Nat → ClassId) (ck : Int64) (hd : Int32) (po st : Int64) (sl le : Int32) (th co bu : Nat → Int32) (tg : Nat → Int64) (wa se : Nat → Int32) (ld : Nat → Nat → Int64) (ow wr fi sz : Nat → Int32) (dl : Nat → Int64) (wt bl sh so : Nat → Int32) (tn sn un : Nat) (t : Nat) (h : Int32) (o : Nat) : va_W := DkW d (cq 0) (rq 0) (ck + (abI (fi t - hd) / nI 100 + sz t).toInt64) (fi t + sz t) (po + (abI (fi t - hd)).toInt64) (if tn - (sn + 1) = 0 then gtF th (vp_updL tg o (tg o + (co o).toInt64 * (sz t).toInt64)) st 8 else st) (if nI o = sl then (if le - sz t ≤ 0 ∨ (upd wa o (wa o - nI 1)) o = 0 then (-1) else sl) else sl) (if nI o = sl then (if le - sz t ≤ 0 ∨ (upd wa o (wa o - nI 1)) o = 0 then nI 0 else le - sz t) else le) ++ (ClW cq k th co bu (vp_updL tg o (tg o + (co o).toInt64 * (sz t).toInt64)) (upd wa o (wa o - nI 1)) (upd se o (se o + sz t)) (nsL ld o ((co o).toInt64 * (sz t).toInt64) 8) ++ (RqW rq k ow wr fi sz dl (upd wt t (nI 0)) (msB ow wr fi sz bl t tn) (upd sh t h) (upd so sn (nI t)) tn (sn + 1) (if h = nI 3 then un + 1 else un)))
theorem mwX2_dispatch_0 : Cond.fieldLink RX2 19 "ShareDisk" "requests" "LShareDisk$Requests;" ∈ wsX2_dispatch := by decide +kernel
theorem mwX2_dispatch_1 : Cond.fieldLink RX2 79 "ShareDisk" "clock" "J" ∈ wsX2_dispatch := by decide +kernel
theorem mwX2_dispatch_2 : Cond.fieldLink RX2 23 "ShareDisk" "sliceOwner" "I" ∈ wsX2_dispatch := by decide +kernel
theorem mwX2_dispatch_3 : Cond.fieldLink RX2 97 "ShareDisk" "head" "I" ∈ wsX2_dispatch := by decide +kernel
theorem iwX2_dispatch_X2 : ∀ w ∈ wsX20, w ∈ wsX2_dispatch := by decide +kernel
set_option maxHeartbeats 4000000 in
set_option maxRecDepth 100000 in
theorem kX2_dispatch (l : Launch) (D : va_G) (k : Nat → ClassId) (d : Nat) (cq : Nat → Nat) (rq : Nat → Nat) (zz : Nat) (ck : Int64) (hd : Int32) (po st : Int64) (sl le : Int32) (th co bu : Nat → Int32) (tg : Nat → Int64) (wa se : Nat → Int32) (ld : Nat → Nat → Int64) (ow wr fi sz : Nat → Int32) (dl : Nat → Int64) (wt bl sh so : Nat → Int32) (tn sn un : Nat) (htn : tn ≤ 500) (how8 : ∀ t, t < tn → ∃ o, o < 8 ∧ ow t = nI o) (hfr : ∀ t, t < tn → stF wt bl sh t = nI 1 → sn < tn) : MI l yX2_dispatch wsX2_dispatch ({ frames := 3, cells := 0, slots := 0, locals := 72 } : Room) D k (DkW d (cq 0) (rq 0) ck hd po st sl le ++ (ClW cq k th co bu tg wa se ld ++ (RqW rq k ow wr fi sz dl wt bl sh so tn sn un))) zz [.ref d] (fun r9 w9 => (∃ t o, muF wt bl sh dl ck tn = some t ∧ o < 8 ∧ ow t = nI o ∧ r9 = nI t ∧ w9 = svW d cq rq k ck hd po st sl le th co bu tg wa se ld ow wr fi sz dl wt bl sh so tn sn un t (nI 3) o) ∨ (muF wt bl sh dl ck tn = none ∧ ∃ sl1 le1 st1, bsP sl le st wa bu tg sl1 le1 st1 ∧ ((naF ow fi wt bl sh sl1 hd tn = none ∧ r9 = -1 ∧ w9 = DkW d (cq 0) (rq 0) ck hd po st1 sl1 le1 ++ (ClW cq k th co bu tg wa se ld ++ (RqW rq k ow wr fi sz dl wt bl sh so tn sn un))) ∨ ∃ t o, naF ow fi wt bl sh sl1 hd tn = some t ∧ o < 8 ∧ ow t = nI o ∧ r9 = nI t ∧ w9 = svW d cq rq k ck hd po st1 sl1 le1 th co bu tg wa se ld ow wr fi sz dl wt bl sh so tn sn un t (nI 2) o))) 0 0 := by
  refine bodyOf (Qc := fun A => QI D k (fun r9 w9 => (∃ t o, muF wt bl sh dl ck tn = some t ∧ o < 8 ∧ ow t = nI o ∧ r9 = nI t ∧ w9 = svW d cq rq k ck hd po st sl le th co bu tg wa se ld ow wr fi sz dl wt bl sh so tn sn un t (nI 3) o) ∨ (muF wt bl sh dl ck tn = none ∧ ∃ sl1 le1 st1, bsP sl le st wa bu tg sl1 le1 st1 ∧ ((naF ow fi wt bl sh sl1 hd tn = none ∧ r9 = -1 ∧ w9 = DkW d (cq 0) (rq 0) ck hd po st1 sl1 le1 ++ (ClW cq k th co bu tg wa se ld ++ (RqW rq k ow wr fi sz dl wt bl sh so tn sn un))) ∨ ∃ t o, naF ow fi wt bl sh sl1 hd tn = some t ∧ o < 8 ∧ ow t = nI o ∧ r9 = nI t ∧ w9 = svW d cq rq k ck hd po st1 sl1 le1 th co bu tg wa se ld ow wr fi sz dl wt bl sh so tn sn un t (nI 2) o))) A) (cc := cX2_dispatch) (maxL := 3) (ret := (some .int)) (by decide) rfl (Nat.le_of_ble_eq_true rfl) ?_
  intro p e s m below meth c A ls hc hA hK hP hD hS hl
  obtain ⟨hx, hb, hml, hr, hts, hown, hlocks, hin⟩ := (show _ from hc)
  have hl : lv_has ls 3 [(0, .ref d)] := hl
  refine lv_aload_n hx hb dX2_dispatch_0 rfl (lv_at hl 0 rfl) ?_
  refine va_get (D := D) (ci := 2) (v := .ref (rq 0)) (C := RX2) (T := TX2) (N := 8) hx hb hts iwX2_dispatch_X2 hown hK hP 0 rfl rfl 1 (by decide) (hts (Cond.fieldLink RX2 19 "ShareDisk" "requests" "LShareDisk$Requests;") mwX2_dispatch_0) (fun _ h9 => h9) rfl dX2_dispatch_1 ?_
  refine lv_aload_n hx hb dX2_dispatch_4 rfl (lv_at hl 0 rfl) ?_
  refine va_get (D := D) (ci := 2) (v := .long ck) (C := RX2) (T := TX2) (N := 8) hx hb hts iwX2_dispatch_X2 hown hK hP 0 rfl rfl 2 (by decide) (hts (Cond.fieldLink RX2 79 "ShareDisk" "clock" "J") mwX2_dispatch_1) (fun _ h9 => h9) rfl dX2_dispatch_5 ?_
  refine goVI2 hc (kX1_mostUrgent l D k rq s.heap.size ow wr fi sz dl wt bl sh so tn sn un ck (htn)) (cwV 1 hts gX2_dispatch_X1_mostUrgent rfl rfl rfl (by decide +kernel) ⟨(Nat.le_of_ble_eq_true rfl), (Nat.le_of_ble_eq_true rfl)⟩) hP hD hK hS hA (ci := 1) (q0 := 0) rfl rfl rfl hl.1 rfl (Nat.le_of_ble_eq_true rfl) dX2_dispatch_8 (Nat.le_of_ble_eq_true rfl) (Nat.le_of_ble_eq_true rfl) (fun r9 B9 H locs hq hP hD hS => ?_)
  obtain ⟨hr9, rfl⟩ := hq
  subst hr9
  obtain ⟨bt, ebt⟩ : ∃ z9, z9 = muF wt bl sh dl ck tn := ⟨_, rfl⟩
  rw [← ebt]
  have hP : va_P D vwCl (DkW d (cq 0) (rq 0) ck hd po st sl le ++ (ClW cq k th co bu tg wa se ld ++ (RqW rq k ow wr fi sz dl wt bl sh so tn sn un))) H := hP
  have hD : va_D A (DkW d (cq 0) (rq 0) ck hd po st sl le ++ (ClW cq k th co bu tg wa se ld ++ (RqW rq k ow wr fi sz dl wt bl sh so tn sn un))) := hD
  refine lv_istore_n (lv' := [(1, .int (oI bt)), (0, .ref d)]) hx hb dX2_dispatch_11 rfl hl (by decide) rfl (fun ls hl => ?_)
  rcases bt with _ | j
  · have hl : lv_has ls 3 [(1, .int (-1)), (0, .ref d)] := hl
    refine lv_iload_n hx hb dX2_dispatch_12 rfl (lv_at hl 0 rfl) ?_
    refine lv_iconst (v := (-1)) hx hb dX2_dispatch_13 (by decide) ?_
    refine lv_icmp_eq (tgt := 25) hx hb dX2_dispatch_14 (by decide) (fun c1 => ?_) (fun c1 => False.elim (c1 rfl))
    refine lv_aload_n hx hb dX2_dispatch_25 rfl (lv_at hl 1 rfl) ?_
    refine va_get (D := D) (ci := 2) (v := .int sl) (C := RX2) (T := TX2) (N := 8) hx hb hts iwX2_dispatch_X2 hown hK hP 0 rfl rfl 6 (by decide) (hts (Cond.fieldLink RX2 23 "ShareDisk" "sliceOwner" "I") mwX2_dispatch_2) (fun _ h9 => h9) rfl dX2_dispatch_26 ?_
    refine lv_iconst (v := (-1)) hx hb dX2_dispatch_29 (by decide) ?_
    refine lv_icmp_ne (tgt := 37) hx hb dX2_dispatch_30 (by decide) (fun c2 => ?_) (fun c2 => ?_)
    · refine lv_aload_n hx hb dX2_dispatch_37 rfl (lv_at hl 1 rfl) ?_
      refine va_get (D := D) (ci := 2) (v := .ref (rq 0)) (C := RX2) (T := TX2) (N := 8) hx hb hts iwX2_dispatch_X2 hown hK hP 0 rfl rfl 1 (by decide) (hts (Cond.fieldLink RX2 19 "ShareDisk" "requests" "LShareDisk$Requests;") mwX2_dispatch_0) (fun _ h9 => h9) rfl dX2_dispatch_38 ?_
      refine lv_aload_n hx hb dX2_dispatch_41 rfl (lv_at hl 1 rfl) ?_
      refine va_get (D := D) (ci := 2) (v := .int sl) (C := RX2) (T := TX2) (N := 8) hx hb hts iwX2_dispatch_X2 hown hK hP 0 rfl rfl 6 (by decide) (hts (Cond.fieldLink RX2 23 "ShareDisk" "sliceOwner" "I") mwX2_dispatch_2) (fun _ h9 => h9) rfl dX2_dispatch_42 ?_
      refine lv_aload_n hx hb dX2_dispatch_45 rfl (lv_at hl 1 rfl) ?_
      refine va_get (D := D) (ci := 2) (v := .int hd) (C := RX2) (T := TX2) (N := 8) hx hb hts iwX2_dispatch_X2 hown hK hP 0 rfl rfl 3 (by decide) (hts (Cond.fieldLink RX2 97 "ShareDisk" "head" "I") mwX2_dispatch_3) (fun _ h9 => h9) rfl dX2_dispatch_46 ?_
      refine goVI2 hc (kX1_nextAlong l D k rq H.size ow wr fi sz dl wt bl sh so tn sn un sl hd (htn)) (cwV 2 hts gX2_dispatch_X1_nextAlong rfl rfl rfl (by decide +kernel) ⟨(Nat.le_of_ble_eq_true rfl), (Nat.le_of_ble_eq_true rfl)⟩) hP hD hK hS hA (ci := 1) (q0 := 0) rfl rfl rfl hl.1 rfl (Nat.le_of_ble_eq_true rfl) dX2_dispatch_49 (Nat.le_of_ble_eq_true rfl) (Nat.le_of_ble_eq_true rfl) (fun r9 B9 H locs hq hP hD hS => ?_)
      obtain ⟨hr9, rfl⟩ := hq
      subst hr9
      obtain ⟨nx, enx⟩ : ∃ z9, z9 = naF ow fi wt bl sh sl hd tn := ⟨_, rfl⟩
      rw [← enx]
      have hP : va_P D vwCl (DkW d (cq 0) (rq 0) ck hd po st sl le ++ (ClW cq k th co bu tg wa se ld ++ (RqW rq k ow wr fi sz dl wt bl sh so tn sn un))) H := hP
      have hD : va_D A (DkW d (cq 0) (rq 0) ck hd po st sl le ++ (ClW cq k th co bu tg wa se ld ++ (RqW rq k ow wr fi sz dl wt bl sh so tn sn un))) := hD
      refine lv_istore_n (lv' := [(2, .int (oI nx)), (1, .int (-1)), (0, .ref d)]) hx hb dX2_dispatch_52 rfl hl (by decide) rfl (fun ls hl => ?_)
      rcases nx with _ | j
      · have hl : lv_has ls 3 [(2, .int (-1)), (1, .int (-1)), (0, .ref d)] := hl
        refine lv_iload_n hx hb dX2_dispatch_53 rfl (lv_at hl 0 rfl) ?_
        refine lv_iconst (v := (-1)) hx hb dX2_dispatch_54 (by decide) ?_
        refine lv_icmp_eq (tgt := 64) hx hb dX2_dispatch_55 (by decide) (fun c3 => ?_) (fun c3 => False.elim (c3 rfl))
        refine lv_iload_n hx hb dX2_dispatch_64 rfl (lv_at hl 0 rfl) ?_
        exact retI hc dX2_dispatch_65 hK hP hD hS (Or.inr ⟨rfl, _, _, _, Or.inr ⟨c2, rfl, rfl, rfl⟩, Or.inl ⟨enx.symm, rfl, rfl⟩⟩) (Nat.le_of_ble_eq_true rfl) (Nat.le_of_ble_eq_true rfl)
      · have hl : lv_has ls 3 [(2, .int (nI j)), (1, .int (-1)), (0, .ref d)] := hl
        refine lv_iload_n hx hb dX2_dispatch_53 rfl (lv_at hl 0 rfl) ?_
        refine lv_iconst (v := (-1)) hx hb dX2_dispatch_54 (by decide) ?_
        refine lv_icmp_eq (tgt := 64) hx hb dX2_dispatch_55 (by decide) (fun c4 => False.elim (nI_ne_m1 (show j < 2 ^ 31 by have := naF_lt _ _ enx.symm; omega) c4)) (fun c4 => ?_)
        have hjt : j < tn := naF_lt _ _ enx.symm
        obtain ⟨o, ho, how⟩ := how8 j hjt
        refine lv_aload_n hx hb dX2_dispatch_58 rfl (lv_at hl 2 rfl) ?_
        refine lv_iload_n hx hb dX2_dispatch_59 rfl (lv_at hl 0 rfl) ?_
        refine lv_iconst (v := nI 2) hx hb dX2_dispatch_60 (by decide) ?_
        refine goVV0 hc (kX2_serve l D k d cq rq H.size ck hd po st sl le th co bu tg wa se ld ow wr fi sz dl wt bl sh so tn sn un j (nI 2) o (hjt) (htn) (hfr j hjt (naF_st _ _ enx.symm).1) (ho) (how)) (cwV 2 hts gX2_dispatch_X2_serve rfl rfl rfl (by decide +kernel) ⟨(Nat.le_of_ble_eq_true rfl), (Nat.le_of_ble_eq_true rfl)⟩) hP hD hK hS hA (ci := 2) (q0 := 0) rfl rfl rfl hl.1 rfl (Nat.le_of_ble_eq_true rfl) dX2_dispatch_61 (Nat.le_of_ble_eq_true rfl) (Nat.le_of_ble_eq_true rfl) (fun B9 H locs hq hP hD hS => ?_)
        subst hq
        have hP : va_P D vwCl (DkW d (cq 0) (rq 0) (ck + (abI (fi j - hd) / nI 100 + sz j).toInt64) (fi j + sz j) (po + (abI (fi j - hd)).toInt64) (if tn - (sn + 1) = 0 then gtF th (vp_updL tg o (tg o + (co o).toInt64 * (sz j).toInt64)) st 8 else st) (if nI o = sl then (if le - sz j ≤ 0 ∨ (upd wa o (wa o - nI 1)) o = 0 then (-1) else sl) else sl) (if nI o = sl then (if le - sz j ≤ 0 ∨ (upd wa o (wa o - nI 1)) o = 0 then nI 0 else le - sz j) else le) ++ (ClW cq k th co bu (vp_updL tg o (tg o + (co o).toInt64 * (sz j).toInt64)) (upd wa o (wa o - nI 1)) (upd se o (se o + sz j)) (nsL ld o ((co o).toInt64 * (sz j).toInt64) 8) ++ (RqW rq k ow wr fi sz dl (upd wt j (nI 0)) (msB ow wr fi sz bl j tn) (upd sh j (nI 2)) (upd so sn (nI j)) tn (sn + 1) (if (nI 2) = nI 3 then un + 1 else un)))) H := hP
        have hD : va_D A (DkW d (cq 0) (rq 0) (ck + (abI (fi j - hd) / nI 100 + sz j).toInt64) (fi j + sz j) (po + (abI (fi j - hd)).toInt64) (if tn - (sn + 1) = 0 then gtF th (vp_updL tg o (tg o + (co o).toInt64 * (sz j).toInt64)) st 8 else st) (if nI o = sl then (if le - sz j ≤ 0 ∨ (upd wa o (wa o - nI 1)) o = 0 then (-1) else sl) else sl) (if nI o = sl then (if le - sz j ≤ 0 ∨ (upd wa o (wa o - nI 1)) o = 0 then nI 0 else le - sz j) else le) ++ (ClW cq k th co bu (vp_updL tg o (tg o + (co o).toInt64 * (sz j).toInt64)) (upd wa o (wa o - nI 1)) (upd se o (se o + sz j)) (nsL ld o ((co o).toInt64 * (sz j).toInt64) 8) ++ (RqW rq k ow wr fi sz dl (upd wt j (nI 0)) (msB ow wr fi sz bl j tn) (upd sh j (nI 2)) (upd so sn (nI j)) tn (sn + 1) (if (nI 2) = nI 3 then un + 1 else un)))) := hD
        refine lv_iload_n hx hb dX2_dispatch_64 rfl (lv_at hl 0 rfl) ?_
        exact retI hc dX2_dispatch_65 hK hP hD hS (Or.inr ⟨rfl, _, _, _, Or.inr ⟨c2, rfl, rfl, rfl⟩, Or.inr ⟨j, o, enx.symm, ho, how, rfl, rfl⟩⟩) (Nat.le_of_ble_eq_true rfl) (Nat.le_of_ble_eq_true rfl)
    · refine lv_aload_n hx hb dX2_dispatch_33 rfl (lv_at hl 1 rfl) ?_
      refine goVV0 hc (kX2_beginSlice l D k d cq rq H.size ck hd po st sl le th co bu tg wa se ld ow wr fi sz dl wt bl sh so tn sn un) (cwV 0 hts gX2_dispatch_X2_beginSlice rfl rfl rfl (by decide +kernel) ⟨(Nat.le_of_ble_eq_true rfl), (Nat.le_of_ble_eq_true rfl)⟩) hP hD hK hS hA (ci := 2) (q0 := 0) rfl rfl rfl hl.1 rfl (Nat.le_of_ble_eq_true rfl) dX2_dispatch_34 (Nat.le_of_ble_eq_true rfl) (Nat.le_of_ble_eq_true rfl) (fun B9 H locs hq hP hD hS => ?_)
      subst hq
      have hP : va_P D vwCl (DkW d (cq 0) (rq 0) ck hd po (oC (nit wa tg 8) st tg) (oC (nit wa tg 8) sl (fun j => nI j)) (oC (nit wa tg 8) le bu) ++ (ClW cq k th co bu tg wa se ld ++ (RqW rq k ow wr fi sz dl wt bl sh so tn sn un))) H := hP
      have hD : va_D A (DkW d (cq 0) (rq 0) ck hd po (oC (nit wa tg 8) st tg) (oC (nit wa tg 8) sl (fun j => nI j)) (oC (nit wa tg 8) le bu) ++ (ClW cq k th co bu tg wa se ld ++ (RqW rq k ow wr fi sz dl wt bl sh so tn sn un))) := hD
      refine lv_aload_n hx hb dX2_dispatch_37 rfl (lv_at hl 1 rfl) ?_
      refine va_get (D := D) (ci := 2) (v := .ref (rq 0)) (C := RX2) (T := TX2) (N := 8) hx hb hts iwX2_dispatch_X2 hown hK hP 0 rfl rfl 1 (by decide) (hts (Cond.fieldLink RX2 19 "ShareDisk" "requests" "LShareDisk$Requests;") mwX2_dispatch_0) (fun _ h9 => h9) rfl dX2_dispatch_38 ?_
      refine lv_aload_n hx hb dX2_dispatch_41 rfl (lv_at hl 1 rfl) ?_
      refine va_get (D := D) (ci := 2) (v := .int (oC (nit wa tg 8) sl (fun j => nI j))) (C := RX2) (T := TX2) (N := 8) hx hb hts iwX2_dispatch_X2 hown hK hP 0 rfl rfl 6 (by decide) (hts (Cond.fieldLink RX2 23 "ShareDisk" "sliceOwner" "I") mwX2_dispatch_2) (fun _ h9 => h9) rfl dX2_dispatch_42 ?_
      refine lv_aload_n hx hb dX2_dispatch_45 rfl (lv_at hl 1 rfl) ?_
      refine va_get (D := D) (ci := 2) (v := .int hd) (C := RX2) (T := TX2) (N := 8) hx hb hts iwX2_dispatch_X2 hown hK hP 0 rfl rfl 3 (by decide) (hts (Cond.fieldLink RX2 97 "ShareDisk" "head" "I") mwX2_dispatch_3) (fun _ h9 => h9) rfl dX2_dispatch_46 ?_
      refine goVI2 hc (kX1_nextAlong l D k rq H.size ow wr fi sz dl wt bl sh so tn sn un (oC (nit wa tg 8) sl (fun j => nI j)) hd (htn)) (cwV 2 hts gX2_dispatch_X1_nextAlong rfl rfl rfl (by decide +kernel) ⟨(Nat.le_of_ble_eq_true rfl), (Nat.le_of_ble_eq_true rfl)⟩) hP hD hK hS hA (ci := 1) (q0 := 0) rfl rfl rfl hl.1 rfl (Nat.le_of_ble_eq_true rfl) dX2_dispatch_49 (Nat.le_of_ble_eq_true rfl) (Nat.le_of_ble_eq_true rfl) (fun r9 B9 H locs hq hP hD hS => ?_)
      obtain ⟨hr9, rfl⟩ := hq
      subst hr9
      obtain ⟨nx, enx⟩ : ∃ z9, z9 = naF ow fi wt bl sh (oC (nit wa tg 8) sl (fun j => nI j)) hd tn := ⟨_, rfl⟩
      rw [← enx]
      have hP : va_P D vwCl (DkW d (cq 0) (rq 0) ck hd po (oC (nit wa tg 8) st tg) (oC (nit wa tg 8) sl (fun j => nI j)) (oC (nit wa tg 8) le bu) ++ (ClW cq k th co bu tg wa se ld ++ (RqW rq k ow wr fi sz dl wt bl sh so tn sn un))) H := hP
      have hD : va_D A (DkW d (cq 0) (rq 0) ck hd po (oC (nit wa tg 8) st tg) (oC (nit wa tg 8) sl (fun j => nI j)) (oC (nit wa tg 8) le bu) ++ (ClW cq k th co bu tg wa se ld ++ (RqW rq k ow wr fi sz dl wt bl sh so tn sn un))) := hD
      refine lv_istore_n (lv' := [(2, .int (oI nx)), (1, .int (-1)), (0, .ref d)]) hx hb dX2_dispatch_52 rfl hl (by decide) rfl (fun ls hl => ?_)
      rcases nx with _ | j
      · have hl : lv_has ls 3 [(2, .int (-1)), (1, .int (-1)), (0, .ref d)] := hl
        refine lv_iload_n hx hb dX2_dispatch_53 rfl (lv_at hl 0 rfl) ?_
        refine lv_iconst (v := (-1)) hx hb dX2_dispatch_54 (by decide) ?_
        refine lv_icmp_eq (tgt := 64) hx hb dX2_dispatch_55 (by decide) (fun c5 => ?_) (fun c5 => False.elim (c5 rfl))
        refine lv_iload_n hx hb dX2_dispatch_64 rfl (lv_at hl 0 rfl) ?_
        exact retI hc dX2_dispatch_65 hK hP hD hS (Or.inr ⟨rfl, _, _, _, Or.inl ⟨c2, rfl, rfl, rfl⟩, Or.inl ⟨enx.symm, rfl, rfl⟩⟩) (Nat.le_of_ble_eq_true rfl) (Nat.le_of_ble_eq_true rfl)
      · have hl : lv_has ls 3 [(2, .int (nI j)), (1, .int (-1)), (0, .ref d)] := hl
        refine lv_iload_n hx hb dX2_dispatch_53 rfl (lv_at hl 0 rfl) ?_
        refine lv_iconst (v := (-1)) hx hb dX2_dispatch_54 (by decide) ?_
        refine lv_icmp_eq (tgt := 64) hx hb dX2_dispatch_55 (by decide) (fun c6 => False.elim (nI_ne_m1 (show j < 2 ^ 31 by have := naF_lt _ _ enx.symm; omega) c6)) (fun c6 => ?_)
        have hjt : j < tn := naF_lt _ _ enx.symm
        obtain ⟨o, ho, how⟩ := how8 j hjt
        refine lv_aload_n hx hb dX2_dispatch_58 rfl (lv_at hl 2 rfl) ?_
        refine lv_iload_n hx hb dX2_dispatch_59 rfl (lv_at hl 0 rfl) ?_
        refine lv_iconst (v := nI 2) hx hb dX2_dispatch_60 (by decide) ?_
        refine goVV0 hc (kX2_serve l D k d cq rq H.size ck hd po (oC (nit wa tg 8) st tg) (oC (nit wa tg 8) sl (fun j => nI j)) (oC (nit wa tg 8) le bu) th co bu tg wa se ld ow wr fi sz dl wt bl sh so tn sn un j (nI 2) o (hjt) (htn) (hfr j hjt (naF_st _ _ enx.symm).1) (ho) (how)) (cwV 2 hts gX2_dispatch_X2_serve rfl rfl rfl (by decide +kernel) ⟨(Nat.le_of_ble_eq_true rfl), (Nat.le_of_ble_eq_true rfl)⟩) hP hD hK hS hA (ci := 2) (q0 := 0) rfl rfl rfl hl.1 rfl (Nat.le_of_ble_eq_true rfl) dX2_dispatch_61 (Nat.le_of_ble_eq_true rfl) (Nat.le_of_ble_eq_true rfl) (fun B9 H locs hq hP hD hS => ?_)
        subst hq
        have hP : va_P D vwCl (DkW d (cq 0) (rq 0) (ck + (abI (fi j - hd) / nI 100 + sz j).toInt64) (fi j + sz j) (po + (abI (fi j - hd)).toInt64) (if tn - (sn + 1) = 0 then gtF th (vp_updL tg o (tg o + (co o).toInt64 * (sz j).toInt64)) (oC (nit wa tg 8) st tg) 8 else (oC (nit wa tg 8) st tg)) (if nI o = (oC (nit wa tg 8) sl (fun j => nI j)) then (if (oC (nit wa tg 8) le bu) - sz j ≤ 0 ∨ (upd wa o (wa o - nI 1)) o = 0 then (-1) else (oC (nit wa tg 8) sl (fun j => nI j))) else (oC (nit wa tg 8) sl (fun j => nI j))) (if nI o = (oC (nit wa tg 8) sl (fun j => nI j)) then (if (oC (nit wa tg 8) le bu) - sz j ≤ 0 ∨ (upd wa o (wa o - nI 1)) o = 0 then nI 0 else (oC (nit wa tg 8) le bu) - sz j) else (oC (nit wa tg 8) le bu)) ++ (ClW cq k th co bu (vp_updL tg o (tg o + (co o).toInt64 * (sz j).toInt64)) (upd wa o (wa o - nI 1)) (upd se o (se o + sz j)) (nsL ld o ((co o).toInt64 * (sz j).toInt64) 8) ++ (RqW rq k ow wr fi sz dl (upd wt j (nI 0)) (msB ow wr fi sz bl j tn) (upd sh j (nI 2)) (upd so sn (nI j)) tn (sn + 1) (if (nI 2) = nI 3 then un + 1 else un)))) H := hP
        have hD : va_D A (DkW d (cq 0) (rq 0) (ck + (abI (fi j - hd) / nI 100 + sz j).toInt64) (fi j + sz j) (po + (abI (fi j - hd)).toInt64) (if tn - (sn + 1) = 0 then gtF th (vp_updL tg o (tg o + (co o).toInt64 * (sz j).toInt64)) (oC (nit wa tg 8) st tg) 8 else (oC (nit wa tg 8) st tg)) (if nI o = (oC (nit wa tg 8) sl (fun j => nI j)) then (if (oC (nit wa tg 8) le bu) - sz j ≤ 0 ∨ (upd wa o (wa o - nI 1)) o = 0 then (-1) else (oC (nit wa tg 8) sl (fun j => nI j))) else (oC (nit wa tg 8) sl (fun j => nI j))) (if nI o = (oC (nit wa tg 8) sl (fun j => nI j)) then (if (oC (nit wa tg 8) le bu) - sz j ≤ 0 ∨ (upd wa o (wa o - nI 1)) o = 0 then nI 0 else (oC (nit wa tg 8) le bu) - sz j) else (oC (nit wa tg 8) le bu)) ++ (ClW cq k th co bu (vp_updL tg o (tg o + (co o).toInt64 * (sz j).toInt64)) (upd wa o (wa o - nI 1)) (upd se o (se o + sz j)) (nsL ld o ((co o).toInt64 * (sz j).toInt64) 8) ++ (RqW rq k ow wr fi sz dl (upd wt j (nI 0)) (msB ow wr fi sz bl j tn) (upd sh j (nI 2)) (upd so sn (nI j)) tn (sn + 1) (if (nI 2) = nI 3 then un + 1 else un)))) := hD
        refine lv_iload_n hx hb dX2_dispatch_64 rfl (lv_at hl 0 rfl) ?_
        exact retI hc dX2_dispatch_65 hK hP hD hS (Or.inr ⟨rfl, _, _, _, Or.inl ⟨c2, rfl, rfl, rfl⟩, Or.inr ⟨j, o, enx.symm, ho, how, rfl, rfl⟩⟩) (Nat.le_of_ble_eq_true rfl) (Nat.le_of_ble_eq_true rfl)
  · have hl : lv_has ls 3 [(1, .int (nI j)), (0, .ref d)] := hl
    refine lv_iload_n hx hb dX2_dispatch_12 rfl (lv_at hl 0 rfl) ?_
    refine lv_iconst (v := (-1)) hx hb dX2_dispatch_13 (by decide) ?_
    refine lv_icmp_eq (tgt := 25) hx hb dX2_dispatch_14 (by decide) (fun c7 => False.elim (nI_ne_m1 (show j < 2 ^ 31 by have := muF_lt _ _ ebt.symm; omega) c7)) (fun c7 => ?_)
    have hjt : j < tn := muF_lt _ _ ebt.symm
    obtain ⟨o, ho, how⟩ := how8 j hjt
    refine lv_aload_n hx hb dX2_dispatch_17 rfl (lv_at hl 1 rfl) ?_
    refine lv_iload_n hx hb dX2_dispatch_18 rfl (lv_at hl 0 rfl) ?_
    refine lv_iconst (v := nI 3) hx hb dX2_dispatch_19 (by decide) ?_
    refine goVV0 hc (kX2_serve l D k d cq rq H.size ck hd po st sl le th co bu tg wa se ld ow wr fi sz dl wt bl sh so tn sn un j (nI 3) o (hjt) (htn) (hfr j hjt (muF_st _ _ ebt.symm).1) (ho) (how)) (cwV 2 hts gX2_dispatch_X2_serve rfl rfl rfl (by decide +kernel) ⟨(Nat.le_of_ble_eq_true rfl), (Nat.le_of_ble_eq_true rfl)⟩) hP hD hK hS hA (ci := 2) (q0 := 0) rfl rfl rfl hl.1 rfl (Nat.le_of_ble_eq_true rfl) dX2_dispatch_20 (Nat.le_of_ble_eq_true rfl) (Nat.le_of_ble_eq_true rfl) (fun B9 H locs hq hP hD hS => ?_)
    subst hq
    have hP : va_P D vwCl (DkW d (cq 0) (rq 0) (ck + (abI (fi j - hd) / nI 100 + sz j).toInt64) (fi j + sz j) (po + (abI (fi j - hd)).toInt64) (if tn - (sn + 1) = 0 then gtF th (vp_updL tg o (tg o + (co o).toInt64 * (sz j).toInt64)) st 8 else st) (if nI o = sl then (if le - sz j ≤ 0 ∨ (upd wa o (wa o - nI 1)) o = 0 then (-1) else sl) else sl) (if nI o = sl then (if le - sz j ≤ 0 ∨ (upd wa o (wa o - nI 1)) o = 0 then nI 0 else le - sz j) else le) ++ (ClW cq k th co bu (vp_updL tg o (tg o + (co o).toInt64 * (sz j).toInt64)) (upd wa o (wa o - nI 1)) (upd se o (se o + sz j)) (nsL ld o ((co o).toInt64 * (sz j).toInt64) 8) ++ (RqW rq k ow wr fi sz dl (upd wt j (nI 0)) (msB ow wr fi sz bl j tn) (upd sh j (nI 3)) (upd so sn (nI j)) tn (sn + 1) (if (nI 3) = nI 3 then un + 1 else un)))) H := hP
    have hD : va_D A (DkW d (cq 0) (rq 0) (ck + (abI (fi j - hd) / nI 100 + sz j).toInt64) (fi j + sz j) (po + (abI (fi j - hd)).toInt64) (if tn - (sn + 1) = 0 then gtF th (vp_updL tg o (tg o + (co o).toInt64 * (sz j).toInt64)) st 8 else st) (if nI o = sl then (if le - sz j ≤ 0 ∨ (upd wa o (wa o - nI 1)) o = 0 then (-1) else sl) else sl) (if nI o = sl then (if le - sz j ≤ 0 ∨ (upd wa o (wa o - nI 1)) o = 0 then nI 0 else le - sz j) else le) ++ (ClW cq k th co bu (vp_updL tg o (tg o + (co o).toInt64 * (sz j).toInt64)) (upd wa o (wa o - nI 1)) (upd se o (se o + sz j)) (nsL ld o ((co o).toInt64 * (sz j).toInt64) 8) ++ (RqW rq k ow wr fi sz dl (upd wt j (nI 0)) (msB ow wr fi sz bl j tn) (upd sh j (nI 3)) (upd so sn (nI j)) tn (sn + 1) (if (nI 3) = nI 3 then un + 1 else un)))) := hD
    refine lv_iload_n hx hb dX2_dispatch_23 rfl (lv_at hl 0 rfl) ?_
    exact retI hc dX2_dispatch_24 hK hP hD hS (Or.inl ⟨j, o, rfl, ho, how, rfl, rfl⟩) (Nat.le_of_ble_eq_true rfl) (Nat.le_of_ble_eq_true rfl)
theorem mwX2_client_0 : Cond.classLink RX2 31 "java/lang/IllegalArgumentException" ∈ wsX2_client := by decide +kernel
theorem mwX2_client_1 : Cond.initialized "java/lang/IllegalArgumentException" ∈ wsX2_client := by decide +kernel
theorem mwX2_client_2 : Cond.fieldLink RX2 10 "ShareDisk" "clients" "LShareDisk$Clients;" ∈ wsX2_client := by decide +kernel
theorem mwX2_client_3 : Cond.fieldLink RX2 38 "ShareDisk" "systemTag" "J" ∈ wsX2_client := by decide +kernel
theorem iwX2_client_X2 : ∀ w ∈ wsX20, w ∈ wsX2_client := by decide +kernel
theorem xaX2_client_33 : ∀ w ∈ (vx_at0 RX2 33 "java/lang/IllegalArgumentException" ["java/lang/RuntimeException", "java/lang/Exception"]).filter goodWord, w ∈ wsX2_client := by decide +kernel
theorem xbX2_client_33 : ∀ w ∈ (vx_at0 RX2 33 "java/lang/IllegalArgumentException" ["java/lang/RuntimeException", "java/lang/Exception"]).filter (fun w => !goodWord w), w ∈ NGl := by decide +kernel
theorem xcX2_client_33 : ∀ w ∈ Cond.classLink RX2 31 "java/lang/IllegalArgumentException" :: Cond.initialized "java/lang/IllegalArgumentException" :: vx_at0 RX2 33 "java/lang/IllegalArgumentException" ["java/lang/RuntimeException", "java/lang/Exception"], vx_ot w = true := by decide +kernel
set_option maxHeartbeats 4000000 in
set_option maxRecDepth 100000 in
theorem kX2_client (l : Launch) (D : va_G) (k : Nat → ClassId) (d : Nat) (cq : Nat → Nat) (rq : Nat → Nat) (zz : Nat) (ck : Int64) (hd : Int32) (po st : Int64) (sl le : Int32) (th co bu : Nat → Int32) (tg : Nat → Int64) (wa se : Nat → Int32) (ld : Nat → Nat → Int64) (ow wr fi sz : Nat → Int32) (dl : Nat → Int64) (wt bl sh so : Nat → Int32) (tn sn un : Nat) (x : Int32) (y : Int32) (z : Int32) (hth : ∀ i, th i = 0 ∨ th i = 1) (hl0 : l.stackTraces = false) : XV l yX2_client wsX2_client ({ frames := 6, cells := 1, slots := 6, locals := 89 } : Room) D k (DkW d (cq 0) (rq 0) ck hd po st sl le ++ (ClW cq k th co bu tg wa se ld ++ (RqW rq k ow wr fi sz dl wt bl sh so tn sn un))) zz [.ref d, .int x, .int y, .int z] (fun w9 => ∃ j, j < 8 ∧ x = nI j ∧ inw y (nI 1) (nI 12) ∧ inw z (nI 1) (nI 1000) ∧ w9 = DkW d (cq 0) (rq 0) ck hd po st sl le ++ (ClW cq k (if th j = 0 then upd th j (nI 1) else th) (upd co j (nI 27720 / y)) (upd bu j z) (if th j = 0 then vp_updL tg j st else tg) wa se ld ++ (RqW rq k ow wr fi sz dl wt bl sh so tn sn un))) (fun E w9 => E = IAE ∧ w9 = DkW d (cq 0) (rq 0) ck hd po st sl le ++ (ClW cq k th co bu tg wa se ld ++ (RqW rq k ow wr fi sz dl wt bl sh so tn sn un)) ∧ ¬ (inw x (nI 0) (nI 7) ∧ inw y (nI 1) (nI 12) ∧ inw z (nI 1) (nI 1000))) 1 6 := by
  refine bodyOfX (Qc := fun A => QV D k (fun w9 => ∃ j, j < 8 ∧ x = nI j ∧ inw y (nI 1) (nI 12) ∧ inw z (nI 1) (nI 1000) ∧ w9 = DkW d (cq 0) (rq 0) ck hd po st sl le ++ (ClW cq k (if th j = 0 then upd th j (nI 1) else th) (upd co j (nI 27720 / y)) (upd bu j z) (if th j = 0 then vp_updL tg j st else tg) wa se ld ++ (RqW rq k ow wr fi sz dl wt bl sh so tn sn un))) A) (XC := fun A => QX D k (fun E w9 => E = IAE ∧ w9 = DkW d (cq 0) (rq 0) ck hd po st sl le ++ (ClW cq k th co bu tg wa se ld ++ (RqW rq k ow wr fi sz dl wt bl sh so tn sn un)) ∧ ¬ (inw x (nI 0) (nI 7) ∧ inw y (nI 1) (nI 12) ∧ inw z (nI 1) (nI 1000))) A) (cc := cX2_client) (maxL := 4) (ret := none) (by decide) rfl (Nat.le_of_ble_eq_true rfl) ?_
  intro p e s m below meth c A ls hc htab hZ hA hK hP hD hS hl
  obtain ⟨hx, hb, hml, hr, hts, hown, hlocks, hin⟩ := (show _ from hc)
  have hl : lv_has ls 4 [(0, .ref d), (1, .int x), (2, .int y), (3, .int z)] := hl
  refine lv_iload_n hx hb dX2_client_0 rfl (lv_at hl 1 rfl) ?_
  refine lv_iconst (v := nI 0) hx hb dX2_client_1 (by decide) ?_
  refine lv_bipush (v := nI 7) hx hb dX2_client_2 (by decide) ?_
  refine goSI hc (kX2_isWithin l D k s.heap.size x (nI 0) (nI 7)) (va_cwS 3 hts gX2_client_X2_isWithin rfl rfl rfl (by decide +kernel) ⟨(Nat.le_of_ble_eq_true rfl), (Nat.le_of_ble_eq_true rfl)⟩) hP hD hK hS hA rfl hl.1 rfl (Nat.le_of_ble_eq_true rfl) dX2_client_4 (Nat.le_of_ble_eq_true rfl) (Nat.le_of_ble_eq_true rfl) (fun r9 B9 H locs hq hP hD hS => ?_)
  obtain ⟨hr9, -⟩ := hq
  subst hr9
  have hP : va_P D vwCl (DkW d (cq 0) (rq 0) ck hd po st sl le ++ (ClW cq k th co bu tg wa se ld ++ (RqW rq k ow wr fi sz dl wt bl sh so tn sn un))) H := hP
  have hD : va_D A (DkW d (cq 0) (rq 0) ck hd po st sl le ++ (ClW cq k th co bu tg wa se ld ++ (RqW rq k ow wr fi sz dl wt bl sh so tn sn un))) := hD
  refine lv_if_eq (tgt := 31) hx hb dX2_client_7 (by decide) (fun c1 => ?_) (fun c1 => ?_)
  · exact thr (E := "java/lang/IllegalArgumentException") (names := ["java/lang/RuntimeException", "java/lang/Exception"]) hc htab hl0 hZ hK hP hD hS (by decide +kernel) (by decide +kernel) mwX2_client_0 mwX2_client_1 xaX2_client_33 xbX2_client_33 xcX2_client_33 hl.1 dX2_client_31 dX2_client_34 dX2_client_35 dX2_client_38 (Nat.le_of_ble_eq_true rfl) (Nat.le_of_ble_eq_true rfl) (Nat.le_of_ble_eq_true rfl) (Nat.le_of_ble_eq_true rfl) (⟨rfl, rfl, fun h => bI_0 c1 h.1⟩) (Nat.le_of_ble_eq_true rfl) (Nat.le_of_ble_eq_true rfl)
  · refine lv_iload_n hx hb dX2_client_10 rfl (lv_at hl 2 rfl) ?_
    refine lv_iconst (v := nI 1) hx hb dX2_client_11 (by decide) ?_
    refine lv_bipush (v := nI 12) hx hb dX2_client_12 (by decide) ?_
    refine goSI hc (kX2_isWithin l D k H.size y (nI 1) (nI 12)) (va_cwS 3 hts gX2_client_X2_isWithin rfl rfl rfl (by decide +kernel) ⟨(Nat.le_of_ble_eq_true rfl), (Nat.le_of_ble_eq_true rfl)⟩) hP hD hK hS hA rfl hl.1 rfl (Nat.le_of_ble_eq_true rfl) dX2_client_14 (Nat.le_of_ble_eq_true rfl) (Nat.le_of_ble_eq_true rfl) (fun r9 B9 H locs hq hP hD hS => ?_)
    obtain ⟨hr9, -⟩ := hq
    subst hr9
    have hP : va_P D vwCl (DkW d (cq 0) (rq 0) ck hd po st sl le ++ (ClW cq k th co bu tg wa se ld ++ (RqW rq k ow wr fi sz dl wt bl sh so tn sn un))) H := hP
    have hD : va_D A (DkW d (cq 0) (rq 0) ck hd po st sl le ++ (ClW cq k th co bu tg wa se ld ++ (RqW rq k ow wr fi sz dl wt bl sh so tn sn un))) := hD
    refine lv_if_eq (tgt := 31) hx hb dX2_client_17 (by decide) (fun c2 => ?_) (fun c2 => ?_)
    · exact thr (E := "java/lang/IllegalArgumentException") (names := ["java/lang/RuntimeException", "java/lang/Exception"]) hc htab hl0 hZ hK hP hD hS (by decide +kernel) (by decide +kernel) mwX2_client_0 mwX2_client_1 xaX2_client_33 xbX2_client_33 xcX2_client_33 hl.1 dX2_client_31 dX2_client_34 dX2_client_35 dX2_client_38 (Nat.le_of_ble_eq_true rfl) (Nat.le_of_ble_eq_true rfl) (Nat.le_of_ble_eq_true rfl) (Nat.le_of_ble_eq_true rfl) (⟨rfl, rfl, fun h => bI_0 c2 h.2.1⟩) (Nat.le_of_ble_eq_true rfl) (Nat.le_of_ble_eq_true rfl)
    · refine lv_iload_n hx hb dX2_client_20 rfl (lv_at hl 3 rfl) ?_
      refine lv_iconst (v := nI 1) hx hb dX2_client_21 (by decide) ?_
      refine lv_sipush (v := nI 1000) hx hb dX2_client_22 (by decide) ?_
      refine goSI hc (kX2_isWithin l D k H.size z (nI 1) (nI 1000)) (va_cwS 3 hts gX2_client_X2_isWithin rfl rfl rfl (by decide +kernel) ⟨(Nat.le_of_ble_eq_true rfl), (Nat.le_of_ble_eq_true rfl)⟩) hP hD hK hS hA rfl hl.1 rfl (Nat.le_of_ble_eq_true rfl) dX2_client_25 (Nat.le_of_ble_eq_true rfl) (Nat.le_of_ble_eq_true rfl) (fun r9 B9 H locs hq hP hD hS => ?_)
      obtain ⟨hr9, -⟩ := hq
      subst hr9
      have hP : va_P D vwCl (DkW d (cq 0) (rq 0) ck hd po st sl le ++ (ClW cq k th co bu tg wa se ld ++ (RqW rq k ow wr fi sz dl wt bl sh so tn sn un))) H := hP
      have hD : va_D A (DkW d (cq 0) (rq 0) ck hd po st sl le ++ (ClW cq k th co bu tg wa se ld ++ (RqW rq k ow wr fi sz dl wt bl sh so tn sn un))) := hD
      refine lv_if_ne (tgt := 39) hx hb dX2_client_28 (by decide) (fun c3 => ?_) (fun c3 => ?_)
      · have hi3 := bI_1 c3
        have hi2 := bI_1 c2
        obtain ⟨j, hj, rfl⟩ := ofW (bI_1 c1) (by decide)
        obtain ⟨v, hv1, hv2, rfl⟩ := ofWd hi2 (by decide) (by decide)
        refine lv_aload_n hx hb dX2_client_39 rfl (lv_at hl 0 rfl) ?_
        refine va_get (D := D) (ci := 2) (v := .ref (cq 0)) (C := RX2) (T := TX2) (N := 8) hx hb hts iwX2_client_X2 hown hK hP 0 rfl rfl 0 (by decide) (hts (Cond.fieldLink RX2 10 "ShareDisk" "clients" "LShareDisk$Clients;") mwX2_client_2) (fun _ h9 => h9) rfl dX2_client_40 ?_
        refine lv_iload_n hx hb dX2_client_43 rfl (lv_at hl 1 rfl) ?_
        refine goVI hc (kX0_isThere l D k cq H.size th co bu tg wa se ld j (by omega) (hth)) (cwV 1 hts gX2_client_X0_isThere rfl rfl rfl (by decide +kernel) ⟨(Nat.le_of_ble_eq_true rfl), (Nat.le_of_ble_eq_true rfl)⟩) hP hD hK hS hA (ci := 0) (q0 := 0) rfl rfl rfl hl.1 rfl (Nat.le_of_ble_eq_true rfl) dX2_client_44 (Nat.le_of_ble_eq_true rfl) (Nat.le_of_ble_eq_true rfl) (fun r9 B9 H locs hq hP hD hS => ?_)
        obtain ⟨hr9, rfl⟩ := hq
        subst hr9
        have hP : va_P D vwCl (DkW d (cq 0) (rq 0) ck hd po st sl le ++ (ClW cq k th co bu tg wa se ld ++ (RqW rq k ow wr fi sz dl wt bl sh so tn sn un))) H := hP
        have hD : va_D A (DkW d (cq 0) (rq 0) ck hd po st sl le ++ (ClW cq k th co bu tg wa se ld ++ (RqW rq k ow wr fi sz dl wt bl sh so tn sn un))) := hD
        refine lv_if_ne (tgt := 62) hx hb dX2_client_47 (by decide) (fun c4 => ?_) (fun c4 => ?_)
        · refine lv_aload_n hx hb dX2_client_62 rfl (lv_at hl 0 rfl) ?_
          refine va_get (D := D) (ci := 2) (v := .ref (cq 0)) (C := RX2) (T := TX2) (N := 8) hx hb hts iwX2_client_X2 hown hK hP 0 rfl rfl 0 (by decide) (hts (Cond.fieldLink RX2 10 "ShareDisk" "clients" "LShareDisk$Clients;") mwX2_client_2) (fun _ h9 => h9) rfl dX2_client_63 ?_
          refine lv_iload_n hx hb dX2_client_66 rfl (lv_at hl 1 rfl) ?_
          refine lv_sipush (v := nI 27720) hx hb dX2_client_67 (by decide) ?_
          refine lv_iload_n hx hb dX2_client_70 rfl (lv_at hl 2 rfl) ?_
          refine lv_idiv hx hb dX2_client_71 (nI_ne0 (by omega) (by omega)) ?_
          refine lv_iload_n hx hb dX2_client_72 rfl (lv_at hl 3 rfl) ?_
          refine goVV hc (kX0_setShare l D k cq H.size th co bu tg wa se ld j ((nI 27720) / (nI v)) z (by omega)) (cwV 3 hts gX2_client_X0_setShare rfl rfl rfl (by decide +kernel) ⟨(Nat.le_of_ble_eq_true rfl), (Nat.le_of_ble_eq_true rfl)⟩) hP hD hK hS hA (ci := 0) (q0 := 0) rfl rfl rfl hl.1 rfl (Nat.le_of_ble_eq_true rfl) dX2_client_73 (Nat.le_of_ble_eq_true rfl) (Nat.le_of_ble_eq_true rfl) (fun B9 H locs hq hP hD hS => ?_)
          subst hq
          have hP : va_P D vwCl (DkW d (cq 0) (rq 0) ck hd po st sl le ++ (ClW cq k th (upd co j ((nI 27720) / (nI v))) (upd bu j z) tg wa se ld ++ (RqW rq k ow wr fi sz dl wt bl sh so tn sn un))) H := hP
          have hD : va_D A (DkW d (cq 0) (rq 0) ck hd po st sl le ++ (ClW cq k th (upd co j ((nI 27720) / (nI v))) (upd bu j z) tg wa se ld ++ (RqW rq k ow wr fi sz dl wt bl sh so tn sn un))) := hD
          exact retVX hc dX2_client_76 hK hP hD hS (⟨j, by omega, rfl, hi2, hi3, by rw [if_neg c4, if_neg c4]⟩) (Nat.le_of_ble_eq_true rfl) (Nat.le_of_ble_eq_true rfl)
        · refine lv_aload_n hx hb dX2_client_50 rfl (lv_at hl 0 rfl) ?_
          refine va_get (D := D) (ci := 2) (v := .ref (cq 0)) (C := RX2) (T := TX2) (N := 8) hx hb hts iwX2_client_X2 hown hK hP 0 rfl rfl 0 (by decide) (hts (Cond.fieldLink RX2 10 "ShareDisk" "clients" "LShareDisk$Clients;") mwX2_client_2) (fun _ h9 => h9) rfl dX2_client_51 ?_
          refine lv_iload_n hx hb dX2_client_54 rfl (lv_at hl 1 rfl) ?_
          refine lv_aload_n hx hb dX2_client_55 rfl (lv_at hl 0 rfl) ?_
          refine va_get (D := D) (ci := 2) (v := .long st) (C := RX2) (T := TX2) (N := 8) hx hb hts iwX2_client_X2 hown hK hP 0 rfl rfl 5 (by decide) (hts (Cond.fieldLink RX2 38 "ShareDisk" "systemTag" "J") mwX2_client_3) (fun _ h9 => h9) rfl dX2_client_56 ?_
          refine goVV hc (kX0_enter l D k cq H.size th co bu tg wa se ld j st (by omega)) (cwV 2 hts gX2_client_X0_enter rfl rfl rfl (by decide +kernel) ⟨(Nat.le_of_ble_eq_true rfl), (Nat.le_of_ble_eq_true rfl)⟩) hP hD hK hS hA (ci := 0) (q0 := 0) rfl rfl rfl hl.1 rfl (Nat.le_of_ble_eq_true rfl) dX2_client_59 (Nat.le_of_ble_eq_true rfl) (Nat.le_of_ble_eq_true rfl) (fun B9 H locs hq hP hD hS => ?_)
          subst hq
          have hP : va_P D vwCl (DkW d (cq 0) (rq 0) ck hd po st sl le ++ (ClW cq k (upd th j (nI 1)) co bu (vp_updL tg j st) wa se ld ++ (RqW rq k ow wr fi sz dl wt bl sh so tn sn un))) H := hP
          have hD : va_D A (DkW d (cq 0) (rq 0) ck hd po st sl le ++ (ClW cq k (upd th j (nI 1)) co bu (vp_updL tg j st) wa se ld ++ (RqW rq k ow wr fi sz dl wt bl sh so tn sn un))) := hD
          refine lv_aload_n hx hb dX2_client_62 rfl (lv_at hl 0 rfl) ?_
          refine va_get (D := D) (ci := 2) (v := .ref (cq 0)) (C := RX2) (T := TX2) (N := 8) hx hb hts iwX2_client_X2 hown hK hP 0 rfl rfl 0 (by decide) (hts (Cond.fieldLink RX2 10 "ShareDisk" "clients" "LShareDisk$Clients;") mwX2_client_2) (fun _ h9 => h9) rfl dX2_client_63 ?_
          refine lv_iload_n hx hb dX2_client_66 rfl (lv_at hl 1 rfl) ?_
          refine lv_sipush (v := nI 27720) hx hb dX2_client_67 (by decide) ?_
          refine lv_iload_n hx hb dX2_client_70 rfl (lv_at hl 2 rfl) ?_
          refine lv_idiv hx hb dX2_client_71 (nI_ne0 (by omega) (by omega)) ?_
          refine lv_iload_n hx hb dX2_client_72 rfl (lv_at hl 3 rfl) ?_
          refine goVV hc (kX0_setShare l D k cq H.size (upd th j (nI 1)) co bu (vp_updL tg j st) wa se ld j ((nI 27720) / (nI v)) z (by omega)) (cwV 3 hts gX2_client_X0_setShare rfl rfl rfl (by decide +kernel) ⟨(Nat.le_of_ble_eq_true rfl), (Nat.le_of_ble_eq_true rfl)⟩) hP hD hK hS hA (ci := 0) (q0 := 0) rfl rfl rfl hl.1 rfl (Nat.le_of_ble_eq_true rfl) dX2_client_73 (Nat.le_of_ble_eq_true rfl) (Nat.le_of_ble_eq_true rfl) (fun B9 H locs hq hP hD hS => ?_)
          subst hq
          have hP : va_P D vwCl (DkW d (cq 0) (rq 0) ck hd po st sl le ++ (ClW cq k (upd th j (nI 1)) (upd co j ((nI 27720) / (nI v))) (upd bu j z) (vp_updL tg j st) wa se ld ++ (RqW rq k ow wr fi sz dl wt bl sh so tn sn un))) H := hP
          have hD : va_D A (DkW d (cq 0) (rq 0) ck hd po st sl le ++ (ClW cq k (upd th j (nI 1)) (upd co j ((nI 27720) / (nI v))) (upd bu j z) (vp_updL tg j st) wa se ld ++ (RqW rq k ow wr fi sz dl wt bl sh so tn sn un))) := hD
          exact retVX hc dX2_client_76 hK hP hD hS (⟨j, by omega, rfl, hi2, hi3, by rw [if_pos c4, if_pos c4]⟩) (Nat.le_of_ble_eq_true rfl) (Nat.le_of_ble_eq_true rfl)
      · exact thr (E := "java/lang/IllegalArgumentException") (names := ["java/lang/RuntimeException", "java/lang/Exception"]) hc htab hl0 hZ hK hP hD hS (by decide +kernel) (by decide +kernel) mwX2_client_0 mwX2_client_1 xaX2_client_33 xbX2_client_33 xcX2_client_33 hl.1 dX2_client_31 dX2_client_34 dX2_client_35 dX2_client_38 (Nat.le_of_ble_eq_true rfl) (Nat.le_of_ble_eq_true rfl) (Nat.le_of_ble_eq_true rfl) (Nat.le_of_ble_eq_true rfl) (⟨rfl, rfl, fun h => bI_0 c3 h.2.2⟩) (Nat.le_of_ble_eq_true rfl) (Nat.le_of_ble_eq_true rfl)
theorem mwX2_gone_0 : Cond.fieldLink RX2 10 "ShareDisk" "clients" "LShareDisk$Clients;" ∈ wsX2_gone := by decide +kernel
theorem mwX2_gone_1 : Cond.fieldLink RX2 23 "ShareDisk" "sliceOwner" "I" ∈ wsX2_gone := by decide +kernel
theorem mwX2_gone_2 : Cond.classLink RX2 58 "java/lang/IllegalStateException" ∈ wsX2_gone := by decide +kernel
theorem mwX2_gone_3 : Cond.initialized "java/lang/IllegalStateException" ∈ wsX2_gone := by decide +kernel
theorem iwX2_gone_X2 : ∀ w ∈ wsX20, w ∈ wsX2_gone := by decide +kernel
theorem xaX2_gone_60 : ∀ w ∈ (vx_at0 RX2 60 "java/lang/IllegalStateException" ["java/lang/RuntimeException", "java/lang/Exception"]).filter goodWord, w ∈ wsX2_gone := by decide +kernel
theorem xbX2_gone_60 : ∀ w ∈ (vx_at0 RX2 60 "java/lang/IllegalStateException" ["java/lang/RuntimeException", "java/lang/Exception"]).filter (fun w => !goodWord w), w ∈ NGl := by decide +kernel
theorem xcX2_gone_60 : ∀ w ∈ Cond.classLink RX2 58 "java/lang/IllegalStateException" :: Cond.initialized "java/lang/IllegalStateException" :: vx_at0 RX2 60 "java/lang/IllegalStateException" ["java/lang/RuntimeException", "java/lang/Exception"], vx_ot w = true := by decide +kernel
set_option maxHeartbeats 4000000 in
set_option maxRecDepth 100000 in
theorem kX2_gone (l : Launch) (D : va_G) (k : Nat → ClassId) (d : Nat) (cq : Nat → Nat) (rq : Nat → Nat) (zz : Nat) (ck : Int64) (hd : Int32) (po st : Int64) (sl le : Int32) (th co bu : Nat → Int32) (tg : Nat → Int64) (wa se : Nat → Int32) (ld : Nat → Nat → Int64) (ow wr fi sz : Nat → Int32) (dl : Nat → Int64) (wt bl sh so : Nat → Int32) (tn sn un : Nat) (x : Int32) (hth : ∀ i, th i = 0 ∨ th i = 1) (hl0 : l.stackTraces = false) : XV l yX2_gone wsX2_gone ({ frames := 7, cells := 2, slots := 12, locals := 110 } : Room) D k (DkW d (cq 0) (rq 0) ck hd po st sl le ++ (ClW cq k th co bu tg wa se ld ++ (RqW rq k ow wr fi sz dl wt bl sh so tn sn un))) zz [.ref d, .int x] (fun w9 => ∃ j, j < 8 ∧ x = nI j ∧ ¬ th j = 0 ∧ wa j ≤ 0 ∧ w9 = DkW d (cq 0) (rq 0) ck hd po st (if sl = nI j then (-1) else sl) (if sl = nI j then nI 0 else le) ++ (ClW cq k (upd th j (nI 0)) co bu tg wa (upd se j (nI 0)) ld ++ (RqW rq k ow wr fi sz dl wt bl sh so tn sn un))) (fun E w9 => w9 = DkW d (cq 0) (rq 0) ck hd po st sl le ++ (ClW cq k th co bu tg wa se ld ++ (RqW rq k ow wr fi sz dl wt bl sh so tn sn un)) ∧ ((E = IAE ∧ ¬ isT th x) ∨ (E = ISE ∧ ∃ j, j < 8 ∧ x = nI j ∧ ¬ th j = 0 ∧ ¬ wa j ≤ 0))) 2 12 := by
  refine bodyOfX (Qc := fun A => QV D k (fun w9 => ∃ j, j < 8 ∧ x = nI j ∧ ¬ th j = 0 ∧ wa j ≤ 0 ∧ w9 = DkW d (cq 0) (rq 0) ck hd po st (if sl = nI j then (-1) else sl) (if sl = nI j then nI 0 else le) ++ (ClW cq k (upd th j (nI 0)) co bu tg wa (upd se j (nI 0)) ld ++ (RqW rq k ow wr fi sz dl wt bl sh so tn sn un))) A) (XC := fun A => QX D k (fun E w9 => w9 = DkW d (cq 0) (rq 0) ck hd po st sl le ++ (ClW cq k th co bu tg wa se ld ++ (RqW rq k ow wr fi sz dl wt bl sh so tn sn un)) ∧ ((E = IAE ∧ ¬ isT th x) ∨ (E = ISE ∧ ∃ j, j < 8 ∧ x = nI j ∧ ¬ th j = 0 ∧ ¬ wa j ≤ 0))) A) (cc := cX2_gone) (maxL := 2) (ret := none) (by decide) rfl (Nat.le_of_ble_eq_true rfl) ?_
  intro p e s m below meth c A ls hc htab hZ hA hK hP hD hS hl
  obtain ⟨hx, hb, hml, hr, hts, hown, hlocks, hin⟩ := (show _ from hc)
  have hl : lv_has ls 2 [(0, .ref d), (1, .int x)] := hl
  refine lv_aload_n hx hb dX2_gone_0 rfl (lv_at hl 0 rfl) ?_
  refine lv_iload_n hx hb dX2_gone_1 rfl (lv_at hl 1 rfl) ?_
  refine goXV0 hc (kX2_requireThere l D k d cq rq s.heap.size ck hd po st sl le th co bu tg wa se ld ow wr fi sz dl wt bl sh so tn sn un x (hth) hl0) (cwV 1 hts gX2_gone_X2_requireThere rfl rfl rfl (by decide +kernel) ⟨(Nat.le_of_ble_eq_true rfl), (Nat.le_of_ble_eq_true rfl)⟩) hP hD hK hZ hS hA (ci := 2) (q0 := 0) rfl rfl rfl hl.1 rfl (Nat.le_of_ble_eq_true rfl) dX2_gone_2 (Nat.le_of_ble_eq_true rfl) (Nat.le_of_ble_eq_true rfl) (fun E ce q9 B9 H locs hq hP hD hS hce hcv hcc => ?_) (fun B9 H locs hq hP hD hS => ?_)
  · exact outX hc htab hK hP hD hS hce hcv hcc (⟨hq.2.1, Or.inl ⟨hq.1, hq.2.2⟩⟩) (Nat.le_of_ble_eq_true rfl) (Nat.le_of_ble_eq_true rfl)
  obtain ⟨rfl, hf9⟩ := hq
  have hP : va_P D vwCl (DkW d (cq 0) (rq 0) ck hd po st sl le ++ (ClW cq k th co bu tg wa se ld ++ (RqW rq k ow wr fi sz dl wt bl sh so tn sn un))) H := hP
  have hD : va_D A (DkW d (cq 0) (rq 0) ck hd po st sl le ++ (ClW cq k th co bu tg wa se ld ++ (RqW rq k ow wr fi sz dl wt bl sh so tn sn un))) := hD
  obtain ⟨j, hj, rfl, hthj⟩ := hf9
  refine lv_aload_n hx hb dX2_gone_5 rfl (lv_at hl 0 rfl) ?_
  refine va_get (D := D) (ci := 2) (v := .ref (cq 0)) (C := RX2) (T := TX2) (N := 8) hx hb hts iwX2_gone_X2 hown hK hP 0 rfl rfl 0 (by decide) (hts (Cond.fieldLink RX2 10 "ShareDisk" "clients" "LShareDisk$Clients;") mwX2_gone_0) (fun _ h9 => h9) rfl dX2_gone_6 ?_
  refine lv_iload_n hx hb dX2_gone_9 rfl (lv_at hl 1 rfl) ?_
  refine goVI hc (kX0_waitingOf l D k cq H.size th co bu tg wa se ld j (hj)) (cwV 1 hts gX2_gone_X0_waitingOf rfl rfl rfl (by decide +kernel) ⟨(Nat.le_of_ble_eq_true rfl), (Nat.le_of_ble_eq_true rfl)⟩) hP hD hK hS hA (ci := 0) (q0 := 0) rfl rfl rfl hl.1 rfl (Nat.le_of_ble_eq_true rfl) dX2_gone_10 (Nat.le_of_ble_eq_true rfl) (Nat.le_of_ble_eq_true rfl) (fun r9 B9 H locs hq hP hD hS => ?_)
  obtain ⟨hr9, rfl⟩ := hq
  subst hr9
  have hP : va_P D vwCl (DkW d (cq 0) (rq 0) ck hd po st sl le ++ (ClW cq k th co bu tg wa se ld ++ (RqW rq k ow wr fi sz dl wt bl sh so tn sn un))) H := hP
  have hD : va_D A (DkW d (cq 0) (rq 0) ck hd po st sl le ++ (ClW cq k th co bu tg wa se ld ++ (RqW rq k ow wr fi sz dl wt bl sh so tn sn un))) := hD
  refine lv_if_le (tgt := 24) hx hb dX2_gone_13 (by decide) (fun c2 => ?_) (fun c2 => ?_)
  · refine lv_aload_n hx hb dX2_gone_24 rfl (lv_at hl 0 rfl) ?_
    refine va_get (D := D) (ci := 2) (v := .ref (cq 0)) (C := RX2) (T := TX2) (N := 8) hx hb hts iwX2_gone_X2 hown hK hP 0 rfl rfl 0 (by decide) (hts (Cond.fieldLink RX2 10 "ShareDisk" "clients" "LShareDisk$Clients;") mwX2_gone_0) (fun _ h9 => h9) rfl dX2_gone_25 ?_
    refine lv_iload_n hx hb dX2_gone_28 rfl (lv_at hl 1 rfl) ?_
    refine goVV hc (kX0_leave l D k cq H.size th co bu tg wa se ld j (hj)) (cwV 1 hts gX2_gone_X0_leave rfl rfl rfl (by decide +kernel) ⟨(Nat.le_of_ble_eq_true rfl), (Nat.le_of_ble_eq_true rfl)⟩) hP hD hK hS hA (ci := 0) (q0 := 0) rfl rfl rfl hl.1 rfl (Nat.le_of_ble_eq_true rfl) dX2_gone_29 (Nat.le_of_ble_eq_true rfl) (Nat.le_of_ble_eq_true rfl) (fun B9 H locs hq hP hD hS => ?_)
    subst hq
    have hP : va_P D vwCl (DkW d (cq 0) (rq 0) ck hd po st sl le ++ (ClW cq k (upd th j (nI 0)) co bu tg wa (upd se j (nI 0)) ld ++ (RqW rq k ow wr fi sz dl wt bl sh so tn sn un))) H := hP
    have hD : va_D A (DkW d (cq 0) (rq 0) ck hd po st sl le ++ (ClW cq k (upd th j (nI 0)) co bu tg wa (upd se j (nI 0)) ld ++ (RqW rq k ow wr fi sz dl wt bl sh so tn sn un))) := hD
    refine lv_aload_n hx hb dX2_gone_32 rfl (lv_at hl 0 rfl) ?_
    refine va_get (D := D) (ci := 2) (v := .int sl) (C := RX2) (T := TX2) (N := 8) hx hb hts iwX2_gone_X2 hown hK hP 0 rfl rfl 6 (by decide) (hts (Cond.fieldLink RX2 23 "ShareDisk" "sliceOwner" "I") mwX2_gone_1) (fun _ h9 => h9) rfl dX2_gone_33 ?_
    refine lv_iload_n hx hb dX2_gone_36 rfl (lv_at hl 1 rfl) ?_
    refine lv_icmp_ne (tgt := 44) hx hb dX2_gone_37 (by decide) (fun c3 => ?_) (fun c3 => ?_)
    · exact retVX hc dX2_gone_44 hK hP hD hS (⟨j, hj, rfl, hthj, c2, by rw [if_neg c3, if_neg c3]⟩) (Nat.le_of_ble_eq_true rfl) (Nat.le_of_ble_eq_true rfl)
    · refine lv_aload_n hx hb dX2_gone_40 rfl (lv_at hl 0 rfl) ?_
      refine goVV0 hc (kX2_endSlice l D k d cq rq H.size ck hd po st sl le (upd th j (nI 0)) co bu tg wa (upd se j (nI 0)) ld ow wr fi sz dl wt bl sh so tn sn un) (cwV 0 hts gX2_gone_X2_endSlice rfl rfl rfl (by decide +kernel) ⟨(Nat.le_of_ble_eq_true rfl), (Nat.le_of_ble_eq_true rfl)⟩) hP hD hK hS hA (ci := 2) (q0 := 0) rfl rfl rfl hl.1 rfl (Nat.le_of_ble_eq_true rfl) dX2_gone_41 (Nat.le_of_ble_eq_true rfl) (Nat.le_of_ble_eq_true rfl) (fun B9 H locs hq hP hD hS => ?_)
      subst hq
      have hP : va_P D vwCl (DkW d (cq 0) (rq 0) ck hd po st (-1) (nI 0) ++ (ClW cq k (upd th j (nI 0)) co bu tg wa (upd se j (nI 0)) ld ++ (RqW rq k ow wr fi sz dl wt bl sh so tn sn un))) H := hP
      have hD : va_D A (DkW d (cq 0) (rq 0) ck hd po st (-1) (nI 0) ++ (ClW cq k (upd th j (nI 0)) co bu tg wa (upd se j (nI 0)) ld ++ (RqW rq k ow wr fi sz dl wt bl sh so tn sn un))) := hD
      exact retVX hc dX2_gone_44 hK hP hD hS (⟨j, hj, rfl, hthj, c2, by rw [if_pos c3, if_pos c3]⟩) (Nat.le_of_ble_eq_true rfl) (Nat.le_of_ble_eq_true rfl)
  · exact thr (E := "java/lang/IllegalStateException") (names := ["java/lang/RuntimeException", "java/lang/Exception"]) hc htab hl0 hZ hK hP hD hS (by decide +kernel) (by decide +kernel) mwX2_gone_2 mwX2_gone_3 xaX2_gone_60 xbX2_gone_60 xcX2_gone_60 hl.1 dX2_gone_16 dX2_gone_19 dX2_gone_20 dX2_gone_23 (Nat.le_of_ble_eq_true rfl) (Nat.le_of_ble_eq_true rfl) (Nat.le_of_ble_eq_true rfl) (Nat.le_of_ble_eq_true rfl) (⟨rfl, Or.inr ⟨rfl, j, hj, rfl, hthj, c2⟩⟩) (Nat.le_of_ble_eq_true rfl) (Nat.le_of_ble_eq_true rfl)
theorem mwX2_submit_0 : Cond.classLink RX2 31 "java/lang/IllegalArgumentException" ∈ wsX2_submit := by decide +kernel
theorem mwX2_submit_1 : Cond.initialized "java/lang/IllegalArgumentException" ∈ wsX2_submit := by decide +kernel
theorem mwX2_submit_2 : Cond.constant RX2 71 (1000000) ∈ wsX2_submit := by decide +kernel
theorem mwX2_submit_3 : Cond.fieldLink RX2 10 "ShareDisk" "clients" "LShareDisk$Clients;" ∈ wsX2_submit := by decide +kernel
theorem mwX2_submit_4 : Cond.fieldLink RX2 19 "ShareDisk" "requests" "LShareDisk$Requests;" ∈ wsX2_submit := by decide +kernel
theorem mwX2_submit_5 : Cond.fieldLink RX2 38 "ShareDisk" "systemTag" "J" ∈ wsX2_submit := by decide +kernel
theorem mwX2_submit_6 : Cond.fieldLink RX2 79 "ShareDisk" "clock" "J" ∈ wsX2_submit := by decide +kernel
theorem iwX2_submit_X2 : ∀ w ∈ wsX20, w ∈ wsX2_submit := by decide +kernel
theorem xaX2_submit_33 : ∀ w ∈ (vx_at0 RX2 33 "java/lang/IllegalArgumentException" ["java/lang/RuntimeException", "java/lang/Exception"]).filter goodWord, w ∈ wsX2_submit := by decide +kernel
theorem xbX2_submit_33 : ∀ w ∈ (vx_at0 RX2 33 "java/lang/IllegalArgumentException" ["java/lang/RuntimeException", "java/lang/Exception"]).filter (fun w => !goodWord w), w ∈ NGl := by decide +kernel
theorem xcX2_submit_33 : ∀ w ∈ Cond.classLink RX2 31 "java/lang/IllegalArgumentException" :: Cond.initialized "java/lang/IllegalArgumentException" :: vx_at0 RX2 33 "java/lang/IllegalArgumentException" ["java/lang/RuntimeException", "java/lang/Exception"], vx_ot w = true := by decide +kernel
set_option maxHeartbeats 4000000 in
set_option maxRecDepth 100000 in
theorem kX2_submit (l : Launch) (D : va_G) (k : Nat → ClassId) (d : Nat) (cq : Nat → Nat) (rq : Nat → Nat) (zz : Nat) (ck : Int64) (hd : Int32) (po st : Int64) (sl le : Int32) (th co bu : Nat → Int32) (tg : Nat → Int64) (wa se : Nat → Int32) (ld : Nat → Nat → Int64) (ow wr fi sz : Nat → Int32) (dl : Nat → Int64) (wt bl sh so : Nat → Int32) (tn sn un : Nat) (x : Int32) (w : Int32) (u : Int32) (v : Int32) (y : Int32) (hth : ∀ i, th i = 0 ∨ th i = 1) (htn : tn ≤ 500) (hw : w = 0 ∨ w = 1) (hl0 : l.stackTraces = false) : XI l yX2_submit wsX2_submit ({ frames := 7, cells := 2, slots := 12, locals := 110 } : Room) D k (DkW d (cq 0) (rq 0) ck hd po st sl le ++ (ClW cq k th co bu tg wa se ld ++ (RqW rq k ow wr fi sz dl wt bl sh so tn sn un))) zz [.ref d, .int x, .int w, .int u, .int v, .int y] (fun r9 w9 => ∃ j, j < 8 ∧ x = nI j ∧ ¬ th j = 0 ∧ (inw v (nI 1) (nI 64) ∧ inw u (nI 0) (nI 100000 - v)) ∧ inw y (nI 0) (nI 1000000) ∧ (((nI 64 ≤ wa j ∨ 500 ≤ tn) ∧ r9 = -1 ∧ w9 = DkW d (cq 0) (rq 0) ck hd po st sl le ++ (ClW cq k th co bu tg wa se ld ++ (RqW rq k ow wr fi sz dl wt bl sh so tn sn un))) ∨ (¬ nI 64 ≤ wa j ∧ tn < 500 ∧ r9 = nI tn ∧ w9 = DkW d (cq 0) (rq 0) ck hd po st sl le ++ (ClW cq k th co bu (if wa j = 0 then vp_updL tg j (mxL (tg j) st) else tg) (upd wa j (wa j + nI 1)) se (if wa j = 0 then fgL ld j 8 else ld) ++ (RqW rq k (upd ow tn (nI j)) (upd wr tn w) (upd fi tn u) (upd sz tn v) (vp_updL dl tn (ck + y.toInt64)) (upd wt tn (nI 1)) (adB (upd ow tn (nI j)) (upd wr tn w) (upd fi tn u) (upd sz tn v) (upd wt tn (nI 1)) bl tn tn) sh so (tn + 1) sn un))))) (fun E w9 => E = IAE ∧ w9 = DkW d (cq 0) (rq 0) ck hd po st sl le ++ (ClW cq k th co bu tg wa se ld ++ (RqW rq k ow wr fi sz dl wt bl sh so tn sn un)) ∧ ¬ (isT th x ∧ (inw v (nI 1) (nI 64) ∧ inw u (nI 0) (nI 100000 - v)) ∧ inw y (nI 0) (nI 1000000))) 2 12 := by
  refine bodyOfX (Qc := fun A => QI D k (fun r9 w9 => ∃ j, j < 8 ∧ x = nI j ∧ ¬ th j = 0 ∧ (inw v (nI 1) (nI 64) ∧ inw u (nI 0) (nI 100000 - v)) ∧ inw y (nI 0) (nI 1000000) ∧ (((nI 64 ≤ wa j ∨ 500 ≤ tn) ∧ r9 = -1 ∧ w9 = DkW d (cq 0) (rq 0) ck hd po st sl le ++ (ClW cq k th co bu tg wa se ld ++ (RqW rq k ow wr fi sz dl wt bl sh so tn sn un))) ∨ (¬ nI 64 ≤ wa j ∧ tn < 500 ∧ r9 = nI tn ∧ w9 = DkW d (cq 0) (rq 0) ck hd po st sl le ++ (ClW cq k th co bu (if wa j = 0 then vp_updL tg j (mxL (tg j) st) else tg) (upd wa j (wa j + nI 1)) se (if wa j = 0 then fgL ld j 8 else ld) ++ (RqW rq k (upd ow tn (nI j)) (upd wr tn w) (upd fi tn u) (upd sz tn v) (vp_updL dl tn (ck + y.toInt64)) (upd wt tn (nI 1)) (adB (upd ow tn (nI j)) (upd wr tn w) (upd fi tn u) (upd sz tn v) (upd wt tn (nI 1)) bl tn tn) sh so (tn + 1) sn un))))) A) (XC := fun A => QX D k (fun E w9 => E = IAE ∧ w9 = DkW d (cq 0) (rq 0) ck hd po st sl le ++ (ClW cq k th co bu tg wa se ld ++ (RqW rq k ow wr fi sz dl wt bl sh so tn sn un)) ∧ ¬ (isT th x ∧ (inw v (nI 1) (nI 64) ∧ inw u (nI 0) (nI 100000 - v)) ∧ inw y (nI 0) (nI 1000000))) A) (cc := cX2_submit) (maxL := 6) (ret := (some .int)) (by decide) rfl (Nat.le_of_ble_eq_true rfl) ?_
  intro p e s m below meth c A ls hc htab hZ hA hK hP hD hS hl
  obtain ⟨hx, hb, hml, hr, hts, hown, hlocks, hin⟩ := (show _ from hc)
  have hl : lv_has ls 6 [(0, .ref d), (1, .int x), (2, .int w), (3, .int u), (4, .int v), (5, .int y)] := hl
  refine lv_aload_n hx hb dX2_submit_0 rfl (lv_at hl 0 rfl) ?_
  refine lv_iload_n hx hb dX2_submit_1 rfl (lv_at hl 1 rfl) ?_
  refine goXV0 hc (kX2_requireThere l D k d cq rq s.heap.size ck hd po st sl le th co bu tg wa se ld ow wr fi sz dl wt bl sh so tn sn un x (hth) hl0) (cwV 1 hts gX2_submit_X2_requireThere rfl rfl rfl (by decide +kernel) ⟨(Nat.le_of_ble_eq_true rfl), (Nat.le_of_ble_eq_true rfl)⟩) hP hD hK hZ hS hA (ci := 2) (q0 := 0) rfl rfl rfl hl.1 rfl (Nat.le_of_ble_eq_true rfl) dX2_submit_2 (Nat.le_of_ble_eq_true rfl) (Nat.le_of_ble_eq_true rfl) (fun E ce q9 B9 H locs hq hP hD hS hce hcv hcc => ?_) (fun B9 H locs hq hP hD hS => ?_)
  · exact outX hc htab hK hP hD hS hce hcv hcc (⟨hq.1, hq.2.1, fun h => hq.2.2 h.1⟩) (Nat.le_of_ble_eq_true rfl) (Nat.le_of_ble_eq_true rfl)
  obtain ⟨rfl, hf9⟩ := hq
  have hP : va_P D vwCl (DkW d (cq 0) (rq 0) ck hd po st sl le ++ (ClW cq k th co bu tg wa se ld ++ (RqW rq k ow wr fi sz dl wt bl sh so tn sn un))) H := hP
  have hD : va_D A (DkW d (cq 0) (rq 0) ck hd po st sl le ++ (ClW cq k th co bu tg wa se ld ++ (RqW rq k ow wr fi sz dl wt bl sh so tn sn un))) := hD
  obtain ⟨j, hj, rfl, hthj⟩ := hf9
  refine lv_iload_n hx hb dX2_submit_5 rfl (lv_at hl 3 rfl) ?_
  refine lv_iload hx hb dX2_submit_6 (lv_at hl 4 rfl) ?_
  refine goSI hc (kX2_areOnDisk l D k H.size u v) (va_cwS 2 hts gX2_submit_X2_areOnDisk rfl rfl rfl (by decide +kernel) ⟨(Nat.le_of_ble_eq_true rfl), (Nat.le_of_ble_eq_true rfl)⟩) hP hD hK hS hA rfl hl.1 rfl (Nat.le_of_ble_eq_true rfl) dX2_submit_8 (Nat.le_of_ble_eq_true rfl) (Nat.le_of_ble_eq_true rfl) (fun r9 B9 H locs hq hP hD hS => ?_)
  obtain ⟨hr9, -⟩ := hq
  subst hr9
  have hP : va_P D vwCl (DkW d (cq 0) (rq 0) ck hd po st sl le ++ (ClW cq k th co bu tg wa se ld ++ (RqW rq k ow wr fi sz dl wt bl sh so tn sn un))) H := hP
  have hD : va_D A (DkW d (cq 0) (rq 0) ck hd po st sl le ++ (ClW cq k th co bu tg wa se ld ++ (RqW rq k ow wr fi sz dl wt bl sh so tn sn un))) := hD
  refine lv_if_eq (tgt := 25) hx hb dX2_submit_11 (by decide) (fun c2 => ?_) (fun c2 => ?_)
  · exact thr (E := "java/lang/IllegalArgumentException") (names := ["java/lang/RuntimeException", "java/lang/Exception"]) hc htab hl0 hZ hK hP hD hS (by decide +kernel) (by decide +kernel) mwX2_submit_0 mwX2_submit_1 xaX2_submit_33 xbX2_submit_33 xcX2_submit_33 hl.1 dX2_submit_25 dX2_submit_28 dX2_submit_29 dX2_submit_32 (Nat.le_of_ble_eq_true rfl) (Nat.le_of_ble_eq_true rfl) (Nat.le_of_ble_eq_true rfl) (Nat.le_of_ble_eq_true rfl) (⟨rfl, rfl, fun h => bI_0 c2 h.2.1⟩) (Nat.le_of_ble_eq_true rfl) (Nat.le_of_ble_eq_true rfl)
  · refine lv_iload hx hb dX2_submit_14 (lv_at hl 5 rfl) ?_
    refine lv_iconst (v := nI 0) hx hb dX2_submit_16 (by decide) ?_
    refine lv_ldc (v := nI 1000000) hx hb hown (hts (.constant RX2 71 (1000000)) mwX2_submit_2) dX2_submit_17 ?_
    refine goSI hc (kX2_isWithin l D k H.size y (nI 0) (nI 1000000)) (va_cwS 3 hts gX2_submit_X2_isWithin rfl rfl rfl (by decide +kernel) ⟨(Nat.le_of_ble_eq_true rfl), (Nat.le_of_ble_eq_true rfl)⟩) hP hD hK hS hA rfl hl.1 rfl (Nat.le_of_ble_eq_true rfl) dX2_submit_19 (Nat.le_of_ble_eq_true rfl) (Nat.le_of_ble_eq_true rfl) (fun r9 B9 H locs hq hP hD hS => ?_)
    obtain ⟨hr9, -⟩ := hq
    subst hr9
    have hP : va_P D vwCl (DkW d (cq 0) (rq 0) ck hd po st sl le ++ (ClW cq k th co bu tg wa se ld ++ (RqW rq k ow wr fi sz dl wt bl sh so tn sn un))) H := hP
    have hD : va_D A (DkW d (cq 0) (rq 0) ck hd po st sl le ++ (ClW cq k th co bu tg wa se ld ++ (RqW rq k ow wr fi sz dl wt bl sh so tn sn un))) := hD
    refine lv_if_ne (tgt := 33) hx hb dX2_submit_22 (by decide) (fun c3 => ?_) (fun c3 => ?_)
    · have hv9 := bI_1 c2
      have hy9 := bI_1 c3
      refine lv_aload_n hx hb dX2_submit_33 rfl (lv_at hl 0 rfl) ?_
      refine va_get (D := D) (ci := 2) (v := .ref (cq 0)) (C := RX2) (T := TX2) (N := 8) hx hb hts iwX2_submit_X2 hown hK hP 0 rfl rfl 0 (by decide) (hts (Cond.fieldLink RX2 10 "ShareDisk" "clients" "LShareDisk$Clients;") mwX2_submit_3) (fun _ h9 => h9) rfl dX2_submit_34 ?_
      refine lv_iload_n hx hb dX2_submit_37 rfl (lv_at hl 1 rfl) ?_
      refine goVI hc (kX0_waitingOf l D k cq H.size th co bu tg wa se ld j (hj)) (cwV 1 hts gX2_submit_X0_waitingOf rfl rfl rfl (by decide +kernel) ⟨(Nat.le_of_ble_eq_true rfl), (Nat.le_of_ble_eq_true rfl)⟩) hP hD hK hS hA (ci := 0) (q0 := 0) rfl rfl rfl hl.1 rfl (Nat.le_of_ble_eq_true rfl) dX2_submit_38 (Nat.le_of_ble_eq_true rfl) (Nat.le_of_ble_eq_true rfl) (fun r9 B9 H locs hq hP hD hS => ?_)
      obtain ⟨hr9, rfl⟩ := hq
      subst hr9
      have hP : va_P D vwCl (DkW d (cq 0) (rq 0) ck hd po st sl le ++ (ClW cq k th co bu tg wa se ld ++ (RqW rq k ow wr fi sz dl wt bl sh so tn sn un))) H := hP
      have hD : va_D A (DkW d (cq 0) (rq 0) ck hd po st sl le ++ (ClW cq k th co bu tg wa se ld ++ (RqW rq k ow wr fi sz dl wt bl sh so tn sn un))) := hD
      refine lv_bipush (v := nI 64) hx hb dX2_submit_41 (by decide) ?_
      refine lv_icmp_ge (tgt := 56) hx hb dX2_submit_43 (by decide) (fun c4 => ?_) (fun c4 => ?_)
      · refine lv_iconst (v := (-1)) hx hb dX2_submit_56 (by decide) ?_
        exact retIX hc dX2_submit_57 hK hP hD hS (⟨j, hj, rfl, hthj, hv9, hy9, Or.inl ⟨Or.inl c4, rfl, rfl⟩⟩) (Nat.le_of_ble_eq_true rfl) (Nat.le_of_ble_eq_true rfl)
      · refine lv_aload_n hx hb dX2_submit_46 rfl (lv_at hl 0 rfl) ?_
        refine va_get (D := D) (ci := 2) (v := .ref (rq 0)) (C := RX2) (T := TX2) (N := 8) hx hb hts iwX2_submit_X2 hown hK hP 0 rfl rfl 1 (by decide) (hts (Cond.fieldLink RX2 19 "ShareDisk" "requests" "LShareDisk$Requests;") mwX2_submit_4) (fun _ h9 => h9) rfl dX2_submit_47 ?_
        refine goVI2 hc (kX1_isFull l D k rq H.size ow wr fi sz dl wt bl sh so tn sn un (htn)) (cwV 0 hts gX2_submit_X1_isFull rfl rfl rfl (by decide +kernel) ⟨(Nat.le_of_ble_eq_true rfl), (Nat.le_of_ble_eq_true rfl)⟩) hP hD hK hS hA (ci := 1) (q0 := 0) rfl rfl rfl hl.1 rfl (Nat.le_of_ble_eq_true rfl) dX2_submit_50 (Nat.le_of_ble_eq_true rfl) (Nat.le_of_ble_eq_true rfl) (fun r9 B9 H locs hq hP hD hS => ?_)
        obtain ⟨hr9, rfl⟩ := hq
        subst hr9
        have hP : va_P D vwCl (DkW d (cq 0) (rq 0) ck hd po st sl le ++ (ClW cq k th co bu tg wa se ld ++ (RqW rq k ow wr fi sz dl wt bl sh so tn sn un))) H := hP
        have hD : va_D A (DkW d (cq 0) (rq 0) ck hd po st sl le ++ (ClW cq k th co bu tg wa se ld ++ (RqW rq k ow wr fi sz dl wt bl sh so tn sn un))) := hD
        refine lv_if_eq (tgt := 58) hx hb dX2_submit_53 (by decide) (fun c5 => ?_) (fun c5 => ?_)
        · refine lv_aload_n hx hb dX2_submit_58 rfl (lv_at hl 0 rfl) ?_
          refine va_get (D := D) (ci := 2) (v := .ref (cq 0)) (C := RX2) (T := TX2) (N := 8) hx hb hts iwX2_submit_X2 hown hK hP 0 rfl rfl 0 (by decide) (hts (Cond.fieldLink RX2 10 "ShareDisk" "clients" "LShareDisk$Clients;") mwX2_submit_3) (fun _ h9 => h9) rfl dX2_submit_59 ?_
          refine lv_iload_n hx hb dX2_submit_62 rfl (lv_at hl 1 rfl) ?_
          refine lv_aload_n hx hb dX2_submit_63 rfl (lv_at hl 0 rfl) ?_
          refine va_get (D := D) (ci := 2) (v := .long st) (C := RX2) (T := TX2) (N := 8) hx hb hts iwX2_submit_X2 hown hK hP 0 rfl rfl 5 (by decide) (hts (Cond.fieldLink RX2 38 "ShareDisk" "systemTag" "J") mwX2_submit_5) (fun _ h9 => h9) rfl dX2_submit_64 ?_
          refine goVV hc (kX0_noteRequest l D k cq H.size th co bu tg wa se ld j st (hj)) (cwV 2 hts gX2_submit_X0_noteRequest rfl rfl rfl (by decide +kernel) ⟨(Nat.le_of_ble_eq_true rfl), (Nat.le_of_ble_eq_true rfl)⟩) hP hD hK hS hA (ci := 0) (q0 := 0) rfl rfl rfl hl.1 rfl (Nat.le_of_ble_eq_true rfl) dX2_submit_67 (Nat.le_of_ble_eq_true rfl) (Nat.le_of_ble_eq_true rfl) (fun B9 H locs hq hP hD hS => ?_)
          subst hq
          have hP : va_P D vwCl (DkW d (cq 0) (rq 0) ck hd po st sl le ++ (ClW cq k th co bu (if wa j = 0 then vp_updL tg j (mxL (tg j) st) else tg) (upd wa j (wa j + nI 1)) se (if wa j = 0 then fgL ld j 8 else ld) ++ (RqW rq k ow wr fi sz dl wt bl sh so tn sn un))) H := hP
          have hD : va_D A (DkW d (cq 0) (rq 0) ck hd po st sl le ++ (ClW cq k th co bu (if wa j = 0 then vp_updL tg j (mxL (tg j) st) else tg) (upd wa j (wa j + nI 1)) se (if wa j = 0 then fgL ld j 8 else ld) ++ (RqW rq k ow wr fi sz dl wt bl sh so tn sn un))) := hD
          refine lv_aload_n hx hb dX2_submit_70 rfl (lv_at hl 0 rfl) ?_
          refine va_get (D := D) (ci := 2) (v := .ref (rq 0)) (C := RX2) (T := TX2) (N := 8) hx hb hts iwX2_submit_X2 hown hK hP 0 rfl rfl 1 (by decide) (hts (Cond.fieldLink RX2 19 "ShareDisk" "requests" "LShareDisk$Requests;") mwX2_submit_4) (fun _ h9 => h9) rfl dX2_submit_71 ?_
          refine lv_iload_n hx hb dX2_submit_74 rfl (lv_at hl 1 rfl) ?_
          refine lv_iload_n hx hb dX2_submit_75 rfl (lv_at hl 2 rfl) ?_
          refine lv_iload_n hx hb dX2_submit_76 rfl (lv_at hl 3 rfl) ?_
          refine lv_iload hx hb dX2_submit_77 (lv_at hl 4 rfl) ?_
          refine lv_aload_n hx hb dX2_submit_79 rfl (lv_at hl 0 rfl) ?_
          refine va_get (D := D) (ci := 2) (v := .long ck) (C := RX2) (T := TX2) (N := 8) hx hb hts iwX2_submit_X2 hown hK hP 0 rfl rfl 2 (by decide) (hts (Cond.fieldLink RX2 79 "ShareDisk" "clock" "J") mwX2_submit_6) (fun _ h9 => h9) rfl dX2_submit_80 ?_
          refine lv_iload hx hb dX2_submit_83 (lv_at hl 5 rfl) ?_
          refine lv_i2l (v := y.toInt64) hx hb dX2_submit_85 rfl ?_
          refine lv_ladd hx hb dX2_submit_86 ?_
          refine goVI2 hc (kX1_add l D k rq H.size ow wr fi sz dl wt bl sh so tn sn un j w u v (ck + y.toInt64) (by have := bI_0 c5; omega) (hw)) (cwV 5 hts gX2_submit_X1_add rfl rfl rfl (by decide +kernel) ⟨(Nat.le_of_ble_eq_true rfl), (Nat.le_of_ble_eq_true rfl)⟩) hP hD hK hS hA (ci := 1) (q0 := 0) rfl rfl rfl hl.1 rfl (Nat.le_of_ble_eq_true rfl) dX2_submit_87 (Nat.le_of_ble_eq_true rfl) (Nat.le_of_ble_eq_true rfl) (fun r9 B9 H locs hq hP hD hS => ?_)
          obtain ⟨hr9, rfl⟩ := hq
          subst hr9
          have hP : va_P D vwCl (DkW d (cq 0) (rq 0) ck hd po st sl le ++ (ClW cq k th co bu (if wa j = 0 then vp_updL tg j (mxL (tg j) st) else tg) (upd wa j (wa j + nI 1)) se (if wa j = 0 then fgL ld j 8 else ld) ++ (RqW rq k (upd ow tn (nI j)) (upd wr tn w) (upd fi tn u) (upd sz tn v) (vp_updL dl tn (ck + y.toInt64)) (upd wt tn (nI 1)) (adB (upd ow tn (nI j)) (upd wr tn w) (upd fi tn u) (upd sz tn v) (upd wt tn (nI 1)) bl tn tn) sh so (tn + 1) sn un))) H := hP
          have hD : va_D A (DkW d (cq 0) (rq 0) ck hd po st sl le ++ (ClW cq k th co bu (if wa j = 0 then vp_updL tg j (mxL (tg j) st) else tg) (upd wa j (wa j + nI 1)) se (if wa j = 0 then fgL ld j 8 else ld) ++ (RqW rq k (upd ow tn (nI j)) (upd wr tn w) (upd fi tn u) (upd sz tn v) (vp_updL dl tn (ck + y.toInt64)) (upd wt tn (nI 1)) (adB (upd ow tn (nI j)) (upd wr tn w) (upd fi tn u) (upd sz tn v) (upd wt tn (nI 1)) bl tn tn) sh so (tn + 1) sn un))) := hD
          exact retIX hc dX2_submit_90 hK hP hD hS (⟨j, hj, rfl, hthj, hv9, hy9, Or.inr ⟨c4, by have := bI_0 c5; omega, rfl, rfl⟩⟩) (Nat.le_of_ble_eq_true rfl) (Nat.le_of_ble_eq_true rfl)
        · refine lv_iconst (v := (-1)) hx hb dX2_submit_56 (by decide) ?_
          exact retIX hc dX2_submit_57 hK hP hD hS (⟨j, hj, rfl, hthj, hv9, hy9, Or.inl ⟨Or.inr (bI_1 c5), rfl, rfl⟩⟩) (Nat.le_of_ble_eq_true rfl) (Nat.le_of_ble_eq_true rfl)
    · exact thr (E := "java/lang/IllegalArgumentException") (names := ["java/lang/RuntimeException", "java/lang/Exception"]) hc htab hl0 hZ hK hP hD hS (by decide +kernel) (by decide +kernel) mwX2_submit_0 mwX2_submit_1 xaX2_submit_33 xbX2_submit_33 xcX2_submit_33 hl.1 dX2_submit_25 dX2_submit_28 dX2_submit_29 dX2_submit_32 (Nat.le_of_ble_eq_true rfl) (Nat.le_of_ble_eq_true rfl) (Nat.le_of_ble_eq_true rfl) (Nat.le_of_ble_eq_true rfl) (⟨rfl, rfl, fun h => bI_0 c3 h.2.2⟩) (Nat.le_of_ble_eq_true rfl) (Nat.le_of_ble_eq_true rfl)
theorem mwX2_pass_0 : Cond.constant RX2 71 (1000000) ∈ wsX2_pass := by decide +kernel
theorem mwX2_pass_1 : Cond.fieldLink RX2 79 "ShareDisk" "clock" "J" ∈ wsX2_pass := by decide +kernel
theorem mwX2_pass_2 : Cond.classLink RX2 31 "java/lang/IllegalArgumentException" ∈ wsX2_pass := by decide +kernel
theorem mwX2_pass_3 : Cond.initialized "java/lang/IllegalArgumentException" ∈ wsX2_pass := by decide +kernel
theorem iwX2_pass_X2 : ∀ w ∈ wsX20, w ∈ wsX2_pass := by decide +kernel
theorem xaX2_pass_33 : ∀ w ∈ (vx_at0 RX2 33 "java/lang/IllegalArgumentException" ["java/lang/RuntimeException", "java/lang/Exception"]).filter goodWord, w ∈ wsX2_pass := by decide +kernel
theorem xbX2_pass_33 : ∀ w ∈ (vx_at0 RX2 33 "java/lang/IllegalArgumentException" ["java/lang/RuntimeException", "java/lang/Exception"]).filter (fun w => !goodWord w), w ∈ NGl := by decide +kernel
theorem xcX2_pass_33 : ∀ w ∈ Cond.classLink RX2 31 "java/lang/IllegalArgumentException" :: Cond.initialized "java/lang/IllegalArgumentException" :: vx_at0 RX2 33 "java/lang/IllegalArgumentException" ["java/lang/RuntimeException", "java/lang/Exception"], vx_ot w = true := by decide +kernel
set_option maxHeartbeats 4000000 in
set_option maxRecDepth 100000 in
theorem kX2_pass (l : Launch) (D : va_G) (k : Nat → ClassId) (d : Nat) (cq : Nat → Nat) (rq : Nat → Nat) (zz : Nat) (ck : Int64) (hd : Int32) (po st : Int64) (sl le : Int32) (th co bu : Nat → Int32) (tg : Nat → Int64) (wa se : Nat → Int32) (ld : Nat → Nat → Int64) (ow wr fi sz : Nat → Int32) (dl : Nat → Int64) (wt bl sh so : Nat → Int32) (tn sn un : Nat) (x : Int32) (hl0 : l.stackTraces = false) : XL l yX2_pass wsX2_pass ({ frames := 6, cells := 1, slots := 6, locals := 89 } : Room) D k (DkW d (cq 0) (rq 0) ck hd po st sl le ++ (ClW cq k th co bu tg wa se ld ++ (RqW rq k ow wr fi sz dl wt bl sh so tn sn un))) zz [.ref d, .int x] (fun r9 w9 => inw x (nI 0) (nI 1000000) ∧ r9 = ck + x.toInt64 ∧ w9 = DkW d (cq 0) (rq 0) (ck + x.toInt64) hd po st sl le ++ (ClW cq k th co bu tg wa se ld ++ (RqW rq k ow wr fi sz dl wt bl sh so tn sn un))) (fun E w9 => E = IAE ∧ w9 = DkW d (cq 0) (rq 0) ck hd po st sl le ++ (ClW cq k th co bu tg wa se ld ++ (RqW rq k ow wr fi sz dl wt bl sh so tn sn un)) ∧ ¬ inw x (nI 0) (nI 1000000)) 1 6 := by
  refine bodyOfX (Qc := fun A => QL D k (fun r9 w9 => inw x (nI 0) (nI 1000000) ∧ r9 = ck + x.toInt64 ∧ w9 = DkW d (cq 0) (rq 0) (ck + x.toInt64) hd po st sl le ++ (ClW cq k th co bu tg wa se ld ++ (RqW rq k ow wr fi sz dl wt bl sh so tn sn un))) A) (XC := fun A => QX D k (fun E w9 => E = IAE ∧ w9 = DkW d (cq 0) (rq 0) ck hd po st sl le ++ (ClW cq k th co bu tg wa se ld ++ (RqW rq k ow wr fi sz dl wt bl sh so tn sn un)) ∧ ¬ inw x (nI 0) (nI 1000000)) A) (cc := cX2_pass) (maxL := 2) (ret := (some .long)) (by decide) rfl (Nat.le_of_ble_eq_true rfl) ?_
  intro p e s m below meth c A ls hc htab hZ hA hK hP hD hS hl
  obtain ⟨hx, hb, hml, hr, hts, hown, hlocks, hin⟩ := (show _ from hc)
  have hl : lv_has ls 2 [(0, .ref d), (1, .int x)] := hl
  refine lv_iload_n hx hb dX2_pass_0 rfl (lv_at hl 1 rfl) ?_
  refine lv_iconst (v := nI 0) hx hb dX2_pass_1 (by decide) ?_
  refine lv_ldc (v := nI 1000000) hx hb hown (hts (.constant RX2 71 (1000000)) mwX2_pass_0) dX2_pass_2 ?_
  refine goSI hc (kX2_isWithin l D k s.heap.size x (nI 0) (nI 1000000)) (va_cwS 3 hts gX2_pass_X2_isWithin rfl rfl rfl (by decide +kernel) ⟨(Nat.le_of_ble_eq_true rfl), (Nat.le_of_ble_eq_true rfl)⟩) hP hD hK hS hA rfl hl.1 rfl (Nat.le_of_ble_eq_true rfl) dX2_pass_4 (Nat.le_of_ble_eq_true rfl) (Nat.le_of_ble_eq_true rfl) (fun r9 B9 H locs hq hP hD hS => ?_)
  obtain ⟨hr9, -⟩ := hq
  subst hr9
  have hP : va_P D vwCl (DkW d (cq 0) (rq 0) ck hd po st sl le ++ (ClW cq k th co bu tg wa se ld ++ (RqW rq k ow wr fi sz dl wt bl sh so tn sn un))) H := hP
  have hD : va_D A (DkW d (cq 0) (rq 0) ck hd po st sl le ++ (ClW cq k th co bu tg wa se ld ++ (RqW rq k ow wr fi sz dl wt bl sh so tn sn un))) := hD
  refine lv_if_ne (tgt := 18) hx hb dX2_pass_7 (by decide) (fun c1 => ?_) (fun c1 => ?_)
  · refine lv_aload_n hx hb dX2_pass_18 rfl (lv_at hl 0 rfl) ?_
    refine lv_dup hx hb dX2_pass_19 rfl ?_
    refine va_get (D := D) (ci := 2) (v := .long ck) (C := RX2) (T := TX2) (N := 8) hx hb hts iwX2_pass_X2 hown hK hP 0 rfl rfl 2 (by decide) (hts (Cond.fieldLink RX2 79 "ShareDisk" "clock" "J") mwX2_pass_1) (fun _ h9 => h9) rfl dX2_pass_20 ?_
    refine lv_iload_n hx hb dX2_pass_23 rfl (lv_at hl 1 rfl) ?_
    refine lv_i2l (v := x.toInt64) hx hb dX2_pass_24 rfl ?_
    refine lv_ladd hx hb dX2_pass_25 ?_
    refine va_put (D := D) (ci := 2) (v := .long (ck + x.toInt64)) (ty := .long) (C := RX2) (T := TX2) (N := 8) hx hb hts iwX2_pass_X2 tyX2 tyX2_ok nmX2 hown hK hP hD hS 0 rfl rfl 2 (by decide) (hts (Cond.fieldLink RX2 79 "ShareDisk" "clock" "J") mwX2_pass_1) (fun _ h9 => h9) rfl (by decide +kernel) rfl rfl (Nat.le_of_ble_eq_true rfl) dX2_pass_26 (fun H locs hP hD hS => ?_)
    have hP : va_P D vwCl (DkW d (cq 0) (rq 0) (ck + x.toInt64) hd po st sl le ++ (ClW cq k th co bu tg wa se ld ++ (RqW rq k ow wr fi sz dl wt bl sh so tn sn un))) H := hP
    have hD : va_D A (DkW d (cq 0) (rq 0) (ck + x.toInt64) hd po st sl le ++ (ClW cq k th co bu tg wa se ld ++ (RqW rq k ow wr fi sz dl wt bl sh so tn sn un))) := hD
    refine lv_aload_n hx hb dX2_pass_29 rfl (lv_at hl 0 rfl) ?_
    refine va_get (D := D) (ci := 2) (v := .long (ck + x.toInt64)) (C := RX2) (T := TX2) (N := 8) hx hb hts iwX2_pass_X2 hown hK hP 0 rfl rfl 2 (by decide) (hts (Cond.fieldLink RX2 79 "ShareDisk" "clock" "J") mwX2_pass_1) (fun _ h9 => h9) rfl dX2_pass_30 ?_
    exact retLX hc dX2_pass_33 hK hP hD hS (⟨bI_1 c1, rfl, rfl⟩) (Nat.le_of_ble_eq_true rfl) (Nat.le_of_ble_eq_true rfl)
  · exact thr (E := "java/lang/IllegalArgumentException") (names := ["java/lang/RuntimeException", "java/lang/Exception"]) hc htab hl0 hZ hK hP hD hS (by decide +kernel) (by decide +kernel) mwX2_pass_2 mwX2_pass_3 xaX2_pass_33 xbX2_pass_33 xcX2_pass_33 hl.1 dX2_pass_10 dX2_pass_13 dX2_pass_14 dX2_pass_17 (Nat.le_of_ble_eq_true rfl) (Nat.le_of_ble_eq_true rfl) (Nat.le_of_ble_eq_true rfl) (Nat.le_of_ble_eq_true rfl) (⟨rfl, rfl, bI_0 c1⟩) (Nat.le_of_ble_eq_true rfl) (Nat.le_of_ble_eq_true rfl)
theorem mwX2_state_0 : Cond.fieldLink RX2 19 "ShareDisk" "requests" "LShareDisk$Requests;" ∈ wsX2_state := by decide +kernel
theorem mwX2_state_1 : Cond.classLink RX2 107 "java/lang/IndexOutOfBoundsException" ∈ wsX2_state := by decide +kernel
theorem mwX2_state_2 : Cond.initialized "java/lang/IndexOutOfBoundsException" ∈ wsX2_state := by decide +kernel
theorem iwX2_state_X2 : ∀ w ∈ wsX20, w ∈ wsX2_state := by decide +kernel
theorem xaX2_state_109 : ∀ w ∈ (vx_at0 RX2 109 "java/lang/IndexOutOfBoundsException" ["java/lang/RuntimeException", "java/lang/Exception"]).filter goodWord, w ∈ wsX2_state := by decide +kernel
theorem xbX2_state_109 : ∀ w ∈ (vx_at0 RX2 109 "java/lang/IndexOutOfBoundsException" ["java/lang/RuntimeException", "java/lang/Exception"]).filter (fun w => !goodWord w), w ∈ NGl := by decide +kernel
theorem xcX2_state_109 : ∀ w ∈ Cond.classLink RX2 107 "java/lang/IndexOutOfBoundsException" :: Cond.initialized "java/lang/IndexOutOfBoundsException" :: vx_at0 RX2 109 "java/lang/IndexOutOfBoundsException" ["java/lang/RuntimeException", "java/lang/Exception"], vx_ot w = true := by decide +kernel
set_option maxHeartbeats 4000000 in
set_option maxRecDepth 100000 in
theorem kX2_state (l : Launch) (D : va_G) (k : Nat → ClassId) (d : Nat) (cq : Nat → Nat) (rq : Nat → Nat) (zz : Nat) (ck : Int64) (hd : Int32) (po st : Int64) (sl le : Int32) (th co bu : Nat → Int32) (tg : Nat → Int64) (wa se : Nat → Int32) (ld : Nat → Nat → Int64) (ow wr fi sz : Nat → Int32) (dl : Nat → Int64) (wt bl sh so : Nat → Int32) (tn sn un : Nat) (x : Int32) (htn : tn ≤ 500) (hl0 : l.stackTraces = false) : XI l yX2_state wsX2_state ({ frames := 6, cells := 1, slots := 6, locals := 89 } : Room) D k (DkW d (cq 0) (rq 0) ck hd po st sl le ++ (ClW cq k th co bu tg wa se ld ++ (RqW rq k ow wr fi sz dl wt bl sh so tn sn un))) zz [.ref d, .int x] (fun r9 w9 => ∃ j, j < tn ∧ x = nI j ∧ r9 = stF wt bl sh j ∧ w9 = DkW d (cq 0) (rq 0) ck hd po st sl le ++ (ClW cq k th co bu tg wa se ld ++ (RqW rq k ow wr fi sz dl wt bl sh so tn sn un))) (fun E w9 => E = IOB ∧ w9 = DkW d (cq 0) (rq 0) ck hd po st sl le ++ (ClW cq k th co bu tg wa se ld ++ (RqW rq k ow wr fi sz dl wt bl sh so tn sn un)) ∧ ¬ (¬ x < 0 ∧ ¬ nI tn ≤ x)) 1 6 := by
  refine bodyOfX (Qc := fun A => QI D k (fun r9 w9 => ∃ j, j < tn ∧ x = nI j ∧ r9 = stF wt bl sh j ∧ w9 = DkW d (cq 0) (rq 0) ck hd po st sl le ++ (ClW cq k th co bu tg wa se ld ++ (RqW rq k ow wr fi sz dl wt bl sh so tn sn un))) A) (XC := fun A => QX D k (fun E w9 => E = IOB ∧ w9 = DkW d (cq 0) (rq 0) ck hd po st sl le ++ (ClW cq k th co bu tg wa se ld ++ (RqW rq k ow wr fi sz dl wt bl sh so tn sn un)) ∧ ¬ (¬ x < 0 ∧ ¬ nI tn ≤ x)) A) (cc := cX2_state) (maxL := 2) (ret := (some .int)) (by decide) rfl (Nat.le_of_ble_eq_true rfl) ?_
  intro p e s m below meth c A ls hc htab hZ hA hK hP hD hS hl
  obtain ⟨hx, hb, hml, hr, hts, hown, hlocks, hin⟩ := (show _ from hc)
  have hl : lv_has ls 2 [(0, .ref d), (1, .int x)] := hl
  refine lv_aload_n hx hb dX2_state_0 rfl (lv_at hl 0 rfl) ?_
  refine va_get (D := D) (ci := 2) (v := .ref (rq 0)) (C := RX2) (T := TX2) (N := 8) hx hb hts iwX2_state_X2 hown hK hP 0 rfl rfl 1 (by decide) (hts (Cond.fieldLink RX2 19 "ShareDisk" "requests" "LShareDisk$Requests;") mwX2_state_0) (fun _ h9 => h9) rfl dX2_state_1 ?_
  refine lv_iload_n hx hb dX2_state_4 rfl (lv_at hl 1 rfl) ?_
  refine goVI2 hc (kX1_isTicket l D k rq s.heap.size ow wr fi sz dl wt bl sh so tn sn un x) (cwV 1 hts gX2_state_X1_isTicket rfl rfl rfl (by decide +kernel) ⟨(Nat.le_of_ble_eq_true rfl), (Nat.le_of_ble_eq_true rfl)⟩) hP hD hK hS hA (ci := 1) (q0 := 0) rfl rfl rfl hl.1 rfl (Nat.le_of_ble_eq_true rfl) dX2_state_5 (Nat.le_of_ble_eq_true rfl) (Nat.le_of_ble_eq_true rfl) (fun r9 B9 H locs hq hP hD hS => ?_)
  obtain ⟨hr9, rfl⟩ := hq
  subst hr9
  have hP : va_P D vwCl (DkW d (cq 0) (rq 0) ck hd po st sl le ++ (ClW cq k th co bu tg wa se ld ++ (RqW rq k ow wr fi sz dl wt bl sh so tn sn un))) H := hP
  have hD : va_D A (DkW d (cq 0) (rq 0) ck hd po st sl le ++ (ClW cq k th co bu tg wa se ld ++ (RqW rq k ow wr fi sz dl wt bl sh so tn sn un))) := hD
  refine lv_if_ne (tgt := 19) hx hb dX2_state_8 (by decide) (fun c1 => ?_) (fun c1 => ?_)
  · obtain ⟨j, hj, rfl⟩ := ofI (bI_1 c1).1 (bI_1 c1).2 (by omega)
    refine lv_aload_n hx hb dX2_state_19 rfl (lv_at hl 0 rfl) ?_
    refine va_get (D := D) (ci := 2) (v := .ref (rq 0)) (C := RX2) (T := TX2) (N := 8) hx hb hts iwX2_state_X2 hown hK hP 0 rfl rfl 1 (by decide) (hts (Cond.fieldLink RX2 19 "ShareDisk" "requests" "LShareDisk$Requests;") mwX2_state_0) (fun _ h9 => h9) rfl dX2_state_20 ?_
    refine lv_iload_n hx hb dX2_state_23 rfl (lv_at hl 1 rfl) ?_
    refine goVI2 hc (kX1_stateOf l D k rq H.size ow wr fi sz dl wt bl sh so tn sn un j (by omega)) (cwV 1 hts gX2_state_X1_stateOf rfl rfl rfl (by decide +kernel) ⟨(Nat.le_of_ble_eq_true rfl), (Nat.le_of_ble_eq_true rfl)⟩) hP hD hK hS hA (ci := 1) (q0 := 0) rfl rfl rfl hl.1 rfl (Nat.le_of_ble_eq_true rfl) dX2_state_24 (Nat.le_of_ble_eq_true rfl) (Nat.le_of_ble_eq_true rfl) (fun r9 B9 H locs hq hP hD hS => ?_)
    obtain ⟨hr9, rfl⟩ := hq
    subst hr9
    have hP : va_P D vwCl (DkW d (cq 0) (rq 0) ck hd po st sl le ++ (ClW cq k th co bu tg wa se ld ++ (RqW rq k ow wr fi sz dl wt bl sh so tn sn un))) H := hP
    have hD : va_D A (DkW d (cq 0) (rq 0) ck hd po st sl le ++ (ClW cq k th co bu tg wa se ld ++ (RqW rq k ow wr fi sz dl wt bl sh so tn sn un))) := hD
    exact retIX hc dX2_state_27 hK hP hD hS (⟨j, hj, rfl, rfl, rfl⟩) (Nat.le_of_ble_eq_true rfl) (Nat.le_of_ble_eq_true rfl)
  · exact thr (E := "java/lang/IndexOutOfBoundsException") (names := ["java/lang/RuntimeException", "java/lang/Exception"]) hc htab hl0 hZ hK hP hD hS (by decide +kernel) (by decide +kernel) mwX2_state_1 mwX2_state_2 xaX2_state_109 xbX2_state_109 xcX2_state_109 hl.1 dX2_state_11 dX2_state_14 dX2_state_15 dX2_state_18 (Nat.le_of_ble_eq_true rfl) (Nat.le_of_ble_eq_true rfl) (Nat.le_of_ble_eq_true rfl) (Nat.le_of_ble_eq_true rfl) (⟨rfl, rfl, bI_0 c1⟩) (Nat.le_of_ble_eq_true rfl) (Nat.le_of_ble_eq_true rfl)
theorem mwX2_order_0 : Cond.fieldLink RX2 19 "ShareDisk" "requests" "LShareDisk$Requests;" ∈ wsX2_order := by decide +kernel
theorem iwX2_order_X2 : ∀ w ∈ wsX20, w ∈ wsX2_order := by decide +kernel
set_option maxHeartbeats 4000000 in
set_option maxRecDepth 100000 in
theorem kX2_order (l : Launch) (D : va_G) (k : Nat → ClassId) (d : Nat) (cq : Nat → Nat) (rq : Nat → Nat) (zz : Nat) (ck : Int64) (hd : Int32) (po st : Int64) (sl le : Int32) (th co bu : Nat → Int32) (tg : Nat → Int64) (wa se : Nat → Int32) (ld : Nat → Nat → Int64) (ow wr fi sz : Nat → Int32) (dl : Nat → Int64) (wt bl sh so : Nat → Int32) (tn sn un : Nat) (x : Int32) (hsn : sn ≤ 500) : MI l yX2_order wsX2_order ({ frames := 1, cells := 0, slots := 0, locals := 21 } : Room) D k (DkW d (cq 0) (rq 0) ck hd po st sl le ++ (ClW cq k th co bu tg wa se ld ++ (RqW rq k ow wr fi sz dl wt bl sh so tn sn un))) zz [.ref d, .int x] (fun r9 w9 => r9 = (sAt so sn x) ∧ w9 = DkW d (cq 0) (rq 0) ck hd po st sl le ++ (ClW cq k th co bu tg wa se ld ++ (RqW rq k ow wr fi sz dl wt bl sh so tn sn un))) 0 0 := by
  refine bodyOf (Qc := fun A => QI D k (fun r9 w9 => r9 = (sAt so sn x) ∧ w9 = DkW d (cq 0) (rq 0) ck hd po st sl le ++ (ClW cq k th co bu tg wa se ld ++ (RqW rq k ow wr fi sz dl wt bl sh so tn sn un))) A) (cc := cX2_order) (maxL := 2) (ret := (some .int)) (by decide) rfl (Nat.le_of_ble_eq_true rfl) ?_
  intro p e s m below meth c A ls hc hA hK hP hD hS hl
  obtain ⟨hx, hb, hml, hr, hts, hown, hlocks, hin⟩ := (show _ from hc)
  have hl : lv_has ls 2 [(0, .ref d), (1, .int x)] := hl
  refine lv_aload_n hx hb dX2_order_0 rfl (lv_at hl 0 rfl) ?_
  refine va_get (D := D) (ci := 2) (v := .ref (rq 0)) (C := RX2) (T := TX2) (N := 8) hx hb hts iwX2_order_X2 hown hK hP 0 rfl rfl 1 (by decide) (hts (Cond.fieldLink RX2 19 "ShareDisk" "requests" "LShareDisk$Requests;") mwX2_order_0) (fun _ h9 => h9) rfl dX2_order_1 ?_
  refine lv_iload_n hx hb dX2_order_4 rfl (lv_at hl 1 rfl) ?_
  refine goVI2 hc (kX1_servedAt l D k rq s.heap.size ow wr fi sz dl wt bl sh so tn sn un x (hsn)) (cwV 1 hts gX2_order_X1_servedAt rfl rfl rfl (by decide +kernel) ⟨(Nat.le_of_ble_eq_true rfl), (Nat.le_of_ble_eq_true rfl)⟩) hP hD hK hS hA (ci := 1) (q0 := 0) rfl rfl rfl hl.1 rfl (Nat.le_of_ble_eq_true rfl) dX2_order_5 (Nat.le_of_ble_eq_true rfl) (Nat.le_of_ble_eq_true rfl) (fun r9 B9 H locs hq hP hD hS => ?_)
  obtain ⟨hr9, rfl⟩ := hq
  subst hr9
  have hP : va_P D vwCl (DkW d (cq 0) (rq 0) ck hd po st sl le ++ (ClW cq k th co bu tg wa se ld ++ (RqW rq k ow wr fi sz dl wt bl sh so tn sn un))) H := hP
  have hD : va_D A (DkW d (cq 0) (rq 0) ck hd po st sl le ++ (ClW cq k th co bu tg wa se ld ++ (RqW rq k ow wr fi sz dl wt bl sh so tn sn un))) := hD
  exact retI hc dX2_order_8 hK hP hD hS (⟨rfl, rfl⟩) (Nat.le_of_ble_eq_true rfl) (Nat.le_of_ble_eq_true rfl)
theorem mwX2_tag_0 : Cond.fieldLink RX2 10 "ShareDisk" "clients" "LShareDisk$Clients;" ∈ wsX2_tag := by decide +kernel
theorem mwX2_tag_1 : Cond.fieldLink RX2 38 "ShareDisk" "systemTag" "J" ∈ wsX2_tag := by decide +kernel
theorem iwX2_tag_X2 : ∀ w ∈ wsX20, w ∈ wsX2_tag := by decide +kernel
set_option maxHeartbeats 4000000 in
set_option maxRecDepth 100000 in
theorem kX2_tag (l : Launch) (D : va_G) (k : Nat → ClassId) (d : Nat) (cq : Nat → Nat) (rq : Nat → Nat) (zz : Nat) (ck : Int64) (hd : Int32) (po st : Int64) (sl le : Int32) (th co bu : Nat → Int32) (tg : Nat → Int64) (wa se : Nat → Int32) (ld : Nat → Nat → Int64) (ow wr fi sz : Nat → Int32) (dl : Nat → Int64) (wt bl sh so : Nat → Int32) (tn sn un : Nat) (x : Int32) (hth : ∀ i, th i = 0 ∨ th i = 1) (hl0 : l.stackTraces = false) : XL l yX2_tag wsX2_tag ({ frames := 7, cells := 1, slots := 6, locals := 110 } : Room) D k (DkW d (cq 0) (rq 0) ck hd po st sl le ++ (ClW cq k th co bu tg wa se ld ++ (RqW rq k ow wr fi sz dl wt bl sh so tn sn un))) zz [.ref d, .int x] (fun r9 w9 => w9 = DkW d (cq 0) (rq 0) ck hd po st sl le ++ (ClW cq k th co bu tg wa se ld ++ (RqW rq k ow wr fi sz dl wt bl sh so tn sn un)) ∧ ((x = nI 8 ∧ r9 = st) ∨ (¬ x = nI 8 ∧ ∃ j, j < 8 ∧ x = nI j ∧ ¬ th j = 0 ∧ r9 = tg j))) (fun E w9 => E = IAE ∧ w9 = DkW d (cq 0) (rq 0) ck hd po st sl le ++ (ClW cq k th co bu tg wa se ld ++ (RqW rq k ow wr fi sz dl wt bl sh so tn sn un)) ∧ ¬ x = nI 8 ∧ ¬ isT th x) 1 6 := by
  refine bodyOfX (Qc := fun A => QL D k (fun r9 w9 => w9 = DkW d (cq 0) (rq 0) ck hd po st sl le ++ (ClW cq k th co bu tg wa se ld ++ (RqW rq k ow wr fi sz dl wt bl sh so tn sn un)) ∧ ((x = nI 8 ∧ r9 = st) ∨ (¬ x = nI 8 ∧ ∃ j, j < 8 ∧ x = nI j ∧ ¬ th j = 0 ∧ r9 = tg j))) A) (XC := fun A => QX D k (fun E w9 => E = IAE ∧ w9 = DkW d (cq 0) (rq 0) ck hd po st sl le ++ (ClW cq k th co bu tg wa se ld ++ (RqW rq k ow wr fi sz dl wt bl sh so tn sn un)) ∧ ¬ x = nI 8 ∧ ¬ isT th x) A) (cc := cX2_tag) (maxL := 2) (ret := (some .long)) (by decide) rfl (Nat.le_of_ble_eq_true rfl) ?_
  intro p e s m below meth c A ls hc htab hZ hA hK hP hD hS hl
  obtain ⟨hx, hb, hml, hr, hts, hown, hlocks, hin⟩ := (show _ from hc)
  have hl : lv_has ls 2 [(0, .ref d), (1, .int x)] := hl
  refine lv_iload_n hx hb dX2_tag_0 rfl (lv_at hl 1 rfl) ?_
  refine lv_bipush (v := nI 8) hx hb dX2_tag_1 (by decide) ?_
  refine lv_icmp_ne (tgt := 11) hx hb dX2_tag_3 (by decide) (fun c1 => ?_) (fun c1 => ?_)
  · refine lv_aload_n hx hb dX2_tag_11 rfl (lv_at hl 0 rfl) ?_
    refine lv_iload_n hx hb dX2_tag_12 rfl (lv_at hl 1 rfl) ?_
    refine goXV0 hc (kX2_requireThere l D k d cq rq s.heap.size ck hd po st sl le th co bu tg wa se ld ow wr fi sz dl wt bl sh so tn sn un x (hth) hl0) (cwV 1 hts gX2_tag_X2_requireThere rfl rfl rfl (by decide +kernel) ⟨(Nat.le_of_ble_eq_true rfl), (Nat.le_of_ble_eq_true rfl)⟩) hP hD hK hZ hS hA (ci := 2) (q0 := 0) rfl rfl rfl hl.1 rfl (Nat.le_of_ble_eq_true rfl) dX2_tag_13 (Nat.le_of_ble_eq_true rfl) (Nat.le_of_ble_eq_true rfl) (fun E ce q9 B9 H locs hq hP hD hS hce hcv hcc => ?_) (fun B9 H locs hq hP hD hS => ?_)
    · exact outX hc htab hK hP hD hS hce hcv hcc (⟨hq.1, hq.2.1, c1, hq.2.2⟩) (Nat.le_of_ble_eq_true rfl) (Nat.le_of_ble_eq_true rfl)
    obtain ⟨rfl, hf9⟩ := hq
    have hP : va_P D vwCl (DkW d (cq 0) (rq 0) ck hd po st sl le ++ (ClW cq k th co bu tg wa se ld ++ (RqW rq k ow wr fi sz dl wt bl sh so tn sn un))) H := hP
    have hD : va_D A (DkW d (cq 0) (rq 0) ck hd po st sl le ++ (ClW cq k th co bu tg wa se ld ++ (RqW rq k ow wr fi sz dl wt bl sh so tn sn un))) := hD
    obtain ⟨j, hj, rfl, hthj⟩ := hf9
    refine lv_aload_n hx hb dX2_tag_16 rfl (lv_at hl 0 rfl) ?_
    refine va_get (D := D) (ci := 2) (v := .ref (cq 0)) (C := RX2) (T := TX2) (N := 8) hx hb hts iwX2_tag_X2 hown hK hP 0 rfl rfl 0 (by decide) (hts (Cond.fieldLink RX2 10 "ShareDisk" "clients" "LShareDisk$Clients;") mwX2_tag_0) (fun _ h9 => h9) rfl dX2_tag_17 ?_
    refine lv_iload_n hx hb dX2_tag_20 rfl (lv_at hl 1 rfl) ?_
    refine goVL hc (kX0_tagOf l D k cq H.size th co bu tg wa se ld j (hj)) (cwV 1 hts gX2_tag_X0_tagOf rfl rfl rfl (by decide +kernel) ⟨(Nat.le_of_ble_eq_true rfl), (Nat.le_of_ble_eq_true rfl)⟩) hP hD hK hS hA (ci := 0) (q0 := 0) rfl rfl rfl hl.1 rfl (Nat.le_of_ble_eq_true rfl) dX2_tag_21 (Nat.le_of_ble_eq_true rfl) (Nat.le_of_ble_eq_true rfl) (fun r9 B9 H locs hq hP hD hS => ?_)
    obtain ⟨hr9, rfl⟩ := hq
    subst hr9
    have hP : va_P D vwCl (DkW d (cq 0) (rq 0) ck hd po st sl le ++ (ClW cq k th co bu tg wa se ld ++ (RqW rq k ow wr fi sz dl wt bl sh so tn sn un))) H := hP
    have hD : va_D A (DkW d (cq 0) (rq 0) ck hd po st sl le ++ (ClW cq k th co bu tg wa se ld ++ (RqW rq k ow wr fi sz dl wt bl sh so tn sn un))) := hD
    exact retLX hc dX2_tag_24 hK hP hD hS (⟨rfl, Or.inr ⟨c1, j, hj, rfl, hthj, rfl⟩⟩) (Nat.le_of_ble_eq_true rfl) (Nat.le_of_ble_eq_true rfl)
  · refine lv_aload_n hx hb dX2_tag_6 rfl (lv_at hl 0 rfl) ?_
    refine va_get (D := D) (ci := 2) (v := .long st) (C := RX2) (T := TX2) (N := 8) hx hb hts iwX2_tag_X2 hown hK hP 0 rfl rfl 5 (by decide) (hts (Cond.fieldLink RX2 38 "ShareDisk" "systemTag" "J") mwX2_tag_1) (fun _ h9 => h9) rfl dX2_tag_7 ?_
    exact retLX hc dX2_tag_10 hK hP hD hS (⟨rfl, Or.inl ⟨c1, rfl⟩⟩) (Nat.le_of_ble_eq_true rfl) (Nat.le_of_ble_eq_true rfl)
theorem mwX2_lag_0 : Cond.fieldLink RX2 10 "ShareDisk" "clients" "LShareDisk$Clients;" ∈ wsX2_lag := by decide +kernel
theorem mwX2_lag_1 : Cond.classLink RX2 31 "java/lang/IllegalArgumentException" ∈ wsX2_lag := by decide +kernel
theorem mwX2_lag_2 : Cond.initialized "java/lang/IllegalArgumentException" ∈ wsX2_lag := by decide +kernel
theorem iwX2_lag_X2 : ∀ w ∈ wsX20, w ∈ wsX2_lag := by decide +kernel
theorem xaX2_lag_33 : ∀ w ∈ (vx_at0 RX2 33 "java/lang/IllegalArgumentException" ["java/lang/RuntimeException", "java/lang/Exception"]).filter goodWord, w ∈ wsX2_lag := by decide +kernel
theorem xbX2_lag_33 : ∀ w ∈ (vx_at0 RX2 33 "java/lang/IllegalArgumentException" ["java/lang/RuntimeException", "java/lang/Exception"]).filter (fun w => !goodWord w), w ∈ NGl := by decide +kernel
theorem xcX2_lag_33 : ∀ w ∈ Cond.classLink RX2 31 "java/lang/IllegalArgumentException" :: Cond.initialized "java/lang/IllegalArgumentException" :: vx_at0 RX2 33 "java/lang/IllegalArgumentException" ["java/lang/RuntimeException", "java/lang/Exception"], vx_ot w = true := by decide +kernel
set_option maxHeartbeats 4000000 in
set_option maxRecDepth 100000 in
theorem kX2_lag (l : Launch) (D : va_G) (k : Nat → ClassId) (d : Nat) (cq : Nat → Nat) (rq : Nat → Nat) (zz : Nat) (ck : Int64) (hd : Int32) (po st : Int64) (sl le : Int32) (th co bu : Nat → Int32) (tg : Nat → Int64) (wa se : Nat → Int32) (ld : Nat → Nat → Int64) (ow wr fi sz : Nat → Int32) (dl : Nat → Int64) (wt bl sh so : Nat → Int32) (tn sn un : Nat) (x : Int32) (y : Int32) (hth : ∀ i, th i = 0 ∨ th i = 1) (hl0 : l.stackTraces = false) : XL l yX2_lag wsX2_lag ({ frames := 7, cells := 3, slots := 18, locals := 110 } : Room) D k (DkW d (cq 0) (rq 0) ck hd po st sl le ++ (ClW cq k th co bu tg wa se ld ++ (RqW rq k ow wr fi sz dl wt bl sh so tn sn un))) zz [.ref d, .int x, .int y] (fun r9 w9 => w9 = DkW d (cq 0) (rq 0) ck hd po st sl le ++ (ClW cq k th co bu tg wa se ld ++ (RqW rq k ow wr fi sz dl wt bl sh so tn sn un)) ∧ ∃ a b, a < 8 ∧ b < 8 ∧ x = nI a ∧ y = nI b ∧ ¬ th a = 0 ∧ ¬ th b = 0 ∧ ¬ x = y ∧ r9 = (if wa a ≤ 0 then 0 else if wa b ≤ 0 then 0 else ld a b)) (fun E w9 => E = IAE ∧ w9 = DkW d (cq 0) (rq 0) ck hd po st sl le ++ (ClW cq k th co bu tg wa se ld ++ (RqW rq k ow wr fi sz dl wt bl sh so tn sn un)) ∧ ¬ (isT th x ∧ isT th y ∧ ¬ x = y)) 3 18 := by
  refine bodyOfX (Qc := fun A => QL D k (fun r9 w9 => w9 = DkW d (cq 0) (rq 0) ck hd po st sl le ++ (ClW cq k th co bu tg wa se ld ++ (RqW rq k ow wr fi sz dl wt bl sh so tn sn un)) ∧ ∃ a b, a < 8 ∧ b < 8 ∧ x = nI a ∧ y = nI b ∧ ¬ th a = 0 ∧ ¬ th b = 0 ∧ ¬ x = y ∧ r9 = (if wa a ≤ 0 then 0 else if wa b ≤ 0 then 0 else ld a b)) A) (XC := fun A => QX D k (fun E w9 => E = IAE ∧ w9 = DkW d (cq 0) (rq 0) ck hd po st sl le ++ (ClW cq k th co bu tg wa se ld ++ (RqW rq k ow wr fi sz dl wt bl sh so tn sn un)) ∧ ¬ (isT th x ∧ isT th y ∧ ¬ x = y)) A) (cc := cX2_lag) (maxL := 3) (ret := (some .long)) (by decide) rfl (Nat.le_of_ble_eq_true rfl) ?_
  intro p e s m below meth c A ls hc htab hZ hA hK hP hD hS hl
  obtain ⟨hx, hb, hml, hr, hts, hown, hlocks, hin⟩ := (show _ from hc)
  have hl : lv_has ls 3 [(0, .ref d), (1, .int x), (2, .int y)] := hl
  refine lv_aload_n hx hb dX2_lag_0 rfl (lv_at hl 0 rfl) ?_
  refine lv_iload_n hx hb dX2_lag_1 rfl (lv_at hl 1 rfl) ?_
  refine goXV0 hc (kX2_requireThere l D k d cq rq s.heap.size ck hd po st sl le th co bu tg wa se ld ow wr fi sz dl wt bl sh so tn sn un x (hth) hl0) (cwV 1 hts gX2_lag_X2_requireThere rfl rfl rfl (by decide +kernel) ⟨(Nat.le_of_ble_eq_true rfl), (Nat.le_of_ble_eq_true rfl)⟩) hP hD hK hZ hS hA (ci := 2) (q0 := 0) rfl rfl rfl hl.1 rfl (Nat.le_of_ble_eq_true rfl) dX2_lag_2 (Nat.le_of_ble_eq_true rfl) (Nat.le_of_ble_eq_true rfl) (fun E ce q9 B9 H locs hq hP hD hS hce hcv hcc => ?_) (fun B9 H locs hq hP hD hS => ?_)
  · exact outX hc htab hK hP hD hS hce hcv hcc (⟨hq.1, hq.2.1, fun h => hq.2.2 h.1⟩) (Nat.le_of_ble_eq_true rfl) (Nat.le_of_ble_eq_true rfl)
  obtain ⟨rfl, hf9⟩ := hq
  have hP : va_P D vwCl (DkW d (cq 0) (rq 0) ck hd po st sl le ++ (ClW cq k th co bu tg wa se ld ++ (RqW rq k ow wr fi sz dl wt bl sh so tn sn un))) H := hP
  have hD : va_D A (DkW d (cq 0) (rq 0) ck hd po st sl le ++ (ClW cq k th co bu tg wa se ld ++ (RqW rq k ow wr fi sz dl wt bl sh so tn sn un))) := hD
  obtain ⟨a, ha, rfl, hta⟩ := hf9
  refine lv_aload_n hx hb dX2_lag_5 rfl (lv_at hl 0 rfl) ?_
  refine lv_iload_n hx hb dX2_lag_6 rfl (lv_at hl 2 rfl) ?_
  refine goXV0 hc (kX2_requireThere l D k d cq rq H.size ck hd po st sl le th co bu tg wa se ld ow wr fi sz dl wt bl sh so tn sn un y (hth) hl0) (cwV 1 hts gX2_lag_X2_requireThere rfl rfl rfl (by decide +kernel) ⟨(Nat.le_of_ble_eq_true rfl), (Nat.le_of_ble_eq_true rfl)⟩) hP hD hK hZ hS hA (ci := 2) (q0 := 0) rfl rfl rfl hl.1 rfl (Nat.le_of_ble_eq_true rfl) dX2_lag_7 (Nat.le_of_ble_eq_true rfl) (Nat.le_of_ble_eq_true rfl) (fun E ce q9 B9 H locs hq hP hD hS hce hcv hcc => ?_) (fun B9 H locs hq hP hD hS => ?_)
  · exact outX hc htab hK hP hD hS hce hcv hcc (⟨hq.1, hq.2.1, fun h => hq.2.2 h.2.1⟩) (Nat.le_of_ble_eq_true rfl) (Nat.le_of_ble_eq_true rfl)
  obtain ⟨rfl, hf9⟩ := hq
  have hP : va_P D vwCl (DkW d (cq 0) (rq 0) ck hd po st sl le ++ (ClW cq k th co bu tg wa se ld ++ (RqW rq k ow wr fi sz dl wt bl sh so tn sn un))) H := hP
  have hD : va_D A (DkW d (cq 0) (rq 0) ck hd po st sl le ++ (ClW cq k th co bu tg wa se ld ++ (RqW rq k ow wr fi sz dl wt bl sh so tn sn un))) := hD
  obtain ⟨b, hb8, rfl, htb⟩ := hf9
  refine lv_iload_n hx hb dX2_lag_10 rfl (lv_at hl 1 rfl) ?_
  refine lv_iload_n hx hb dX2_lag_11 rfl (lv_at hl 2 rfl) ?_
  refine lv_icmp_ne (tgt := 23) hx hb dX2_lag_12 (by decide) (fun c3 => ?_) (fun c3 => ?_)
  · refine lv_aload_n hx hb dX2_lag_23 rfl (lv_at hl 0 rfl) ?_
    refine va_get (D := D) (ci := 2) (v := .ref (cq 0)) (C := RX2) (T := TX2) (N := 8) hx hb hts iwX2_lag_X2 hown hK hP 0 rfl rfl 0 (by decide) (hts (Cond.fieldLink RX2 10 "ShareDisk" "clients" "LShareDisk$Clients;") mwX2_lag_0) (fun _ h9 => h9) rfl dX2_lag_24 ?_
    refine lv_iload_n hx hb dX2_lag_27 rfl (lv_at hl 1 rfl) ?_
    refine lv_iload_n hx hb dX2_lag_28 rfl (lv_at hl 2 rfl) ?_
    refine goVL hc (kX0_leadOf l D k cq H.size th co bu tg wa se ld a b (ha) (hb8)) (cwV 2 hts gX2_lag_X0_leadOf rfl rfl rfl (by decide +kernel) ⟨(Nat.le_of_ble_eq_true rfl), (Nat.le_of_ble_eq_true rfl)⟩) hP hD hK hS hA (ci := 0) (q0 := 0) rfl rfl rfl hl.1 rfl (Nat.le_of_ble_eq_true rfl) dX2_lag_29 (Nat.le_of_ble_eq_true rfl) (Nat.le_of_ble_eq_true rfl) (fun r9 B9 H locs hq hP hD hS => ?_)
    obtain ⟨hr9, rfl⟩ := hq
    subst hr9
    have hP : va_P D vwCl (DkW d (cq 0) (rq 0) ck hd po st sl le ++ (ClW cq k th co bu tg wa se ld ++ (RqW rq k ow wr fi sz dl wt bl sh so tn sn un))) H := hP
    have hD : va_D A (DkW d (cq 0) (rq 0) ck hd po st sl le ++ (ClW cq k th co bu tg wa se ld ++ (RqW rq k ow wr fi sz dl wt bl sh so tn sn un))) := hD
    exact retLX hc dX2_lag_32 hK hP hD hS (⟨rfl, a, b, ha, hb8, rfl, rfl, hta, htb, c3, rfl⟩) (Nat.le_of_ble_eq_true rfl) (Nat.le_of_ble_eq_true rfl)
  · exact thr (E := "java/lang/IllegalArgumentException") (names := ["java/lang/RuntimeException", "java/lang/Exception"]) hc htab hl0 hZ hK hP hD hS (by decide +kernel) (by decide +kernel) mwX2_lag_1 mwX2_lag_2 xaX2_lag_33 xbX2_lag_33 xcX2_lag_33 hl.1 dX2_lag_15 dX2_lag_18 dX2_lag_19 dX2_lag_22 (Nat.le_of_ble_eq_true rfl) (Nat.le_of_ble_eq_true rfl) (Nat.le_of_ble_eq_true rfl) (Nat.le_of_ble_eq_true rfl) (⟨rfl, rfl, fun h => h.2.2 c3⟩) (Nat.le_of_ble_eq_true rfl) (Nat.le_of_ble_eq_true rfl)
theorem mwX2_countOfDisk_0 : Cond.fieldLink RX2 10 "ShareDisk" "clients" "LShareDisk$Clients;" ∈ wsX2_countOfDisk := by decide +kernel
theorem mwX2_countOfDisk_1 : Cond.fieldLink RX2 19 "ShareDisk" "requests" "LShareDisk$Requests;" ∈ wsX2_countOfDisk := by decide +kernel
theorem mwX2_countOfDisk_2 : Cond.fieldLink RX2 97 "ShareDisk" "head" "I" ∈ wsX2_countOfDisk := by decide +kernel
theorem mwX2_countOfDisk_3 : Cond.fieldLink RX2 143 "ShareDisk" "passedOver" "J" ∈ wsX2_countOfDisk := by decide +kernel
theorem mwX2_countOfDisk_4 : Cond.fieldLink RX2 23 "ShareDisk" "sliceOwner" "I" ∈ wsX2_countOfDisk := by decide +kernel
theorem mwX2_countOfDisk_5 : Cond.fieldLink RX2 146 "ShareDisk" "sliceLeft" "I" ∈ wsX2_countOfDisk := by decide +kernel
theorem mwX2_countOfDisk_6 : Cond.constantLong RX2 149 (-1) ∈ wsX2_countOfDisk := by decide +kernel
theorem iwX2_countOfDisk_X2 : ∀ w ∈ wsX20, w ∈ wsX2_countOfDisk := by decide +kernel
set_option maxHeartbeats 4000000 in
set_option maxRecDepth 100000 in
theorem kX2_countOfDisk (l : Launch) (D : va_G) (k : Nat → ClassId) (d : Nat) (cq : Nat → Nat) (rq : Nat → Nat) (zz : Nat) (ck : Int64) (hd : Int32) (po st : Int64) (sl le : Int32) (th co bu : Nat → Int32) (tg : Nat → Int64) (wa se : Nat → Int32) (ld : Nat → Nat → Int64) (ow wr fi sz : Nat → Int32) (dl : Nat → Int64) (wt bl sh so : Nat → Int32) (tn sn un : Nat) (x : Int32) (hsn : sn ≤ tn) : ML l yX2_countOfDisk wsX2_countOfDisk ({ frames := 1, cells := 0, slots := 0, locals := 22 } : Room) D k (DkW d (cq 0) (rq 0) ck hd po st sl le ++ (ClW cq k th co bu tg wa se ld ++ (RqW rq k ow wr fi sz dl wt bl sh so tn sn un))) zz [.ref d, .int x] (fun r9 w9 => r9 = (cdF th tn sn un hd po sl le x) ∧ w9 = DkW d (cq 0) (rq 0) ck hd po st sl le ++ (ClW cq k th co bu tg wa se ld ++ (RqW rq k ow wr fi sz dl wt bl sh so tn sn un))) 0 0 := by
  refine bodyOf (Qc := fun A => QL D k (fun r9 w9 => r9 = (cdF th tn sn un hd po sl le x) ∧ w9 = DkW d (cq 0) (rq 0) ck hd po st sl le ++ (ClW cq k th co bu tg wa se ld ++ (RqW rq k ow wr fi sz dl wt bl sh so tn sn un))) A) (cc := cX2_countOfDisk) (maxL := 2) (ret := (some .long)) (by decide) rfl (Nat.le_of_ble_eq_true rfl) ?_
  intro p e s m below meth c A ls hc hA hK hP hD hS hl
  obtain ⟨hx, hb, hml, hr, hts, hown, hlocks, hin⟩ := (show _ from hc)
  have hl : lv_has ls 2 [(0, .ref d), (1, .int x)] := hl
  refine lv_iload_n hx hb dX2_countOfDisk_0 rfl (lv_at hl 1 rfl) ?_
  by_cases h0 : x = nI 0
  · subst h0
    refine lv_tableIn (off := 47) (tgt := 48) hx hb dX2_countOfDisk_1 (by decide) (by decide) (by decide) (by decide) ?_
    refine lv_aload_n hx hb dX2_countOfDisk_48 rfl (lv_at hl 0 rfl) ?_
    refine va_get (D := D) (ci := 2) (v := .ref (cq 0)) (C := RX2) (T := TX2) (N := 8) hx hb hts iwX2_countOfDisk_X2 hown hK hP 0 rfl rfl 0 (by decide) (hts (Cond.fieldLink RX2 10 "ShareDisk" "clients" "LShareDisk$Clients;") mwX2_countOfDisk_0) (fun _ h9 => h9) rfl dX2_countOfDisk_49 ?_
    refine goVI hc (kX0_howMany l D k cq s.heap.size th co bu tg wa se ld) (cwV 0 hts gX2_countOfDisk_X0_howMany rfl rfl rfl (by decide +kernel) ⟨(Nat.le_of_ble_eq_true rfl), (Nat.le_of_ble_eq_true rfl)⟩) hP hD hK hS hA (ci := 0) (q0 := 0) rfl rfl rfl hl.1 rfl (Nat.le_of_ble_eq_true rfl) dX2_countOfDisk_52 (Nat.le_of_ble_eq_true rfl) (Nat.le_of_ble_eq_true rfl) (fun r9 B9 H locs hq hP hD hS => ?_)
    obtain ⟨hr9, rfl⟩ := hq
    subst hr9
    have hP : va_P D vwCl (DkW d (cq 0) (rq 0) ck hd po st sl le ++ (ClW cq k th co bu tg wa se ld ++ (RqW rq k ow wr fi sz dl wt bl sh so tn sn un))) H := hP
    have hD : va_D A (DkW d (cq 0) (rq 0) ck hd po st sl le ++ (ClW cq k th co bu tg wa se ld ++ (RqW rq k ow wr fi sz dl wt bl sh so tn sn un))) := hD
    refine lv_i2l (v := (nI (hmN th 8)).toInt64) hx hb dX2_countOfDisk_55 rfl ?_
    exact retL hc dX2_countOfDisk_56 hK hP hD hS (⟨by rw [cdF, if_pos rfl], rfl⟩) (Nat.le_of_ble_eq_true rfl) (Nat.le_of_ble_eq_true rfl)
  by_cases h1 : x = nI 1
  · subst h1
    refine lv_tableIn (off := 56) (tgt := 57) hx hb dX2_countOfDisk_1 (by decide) (by decide) (by decide) (by decide) ?_
    refine lv_aload_n hx hb dX2_countOfDisk_57 rfl (lv_at hl 0 rfl) ?_
    refine va_get (D := D) (ci := 2) (v := .ref (rq 0)) (C := RX2) (T := TX2) (N := 8) hx hb hts iwX2_countOfDisk_X2 hown hK hP 0 rfl rfl 1 (by decide) (hts (Cond.fieldLink RX2 19 "ShareDisk" "requests" "LShareDisk$Requests;") mwX2_countOfDisk_1) (fun _ h9 => h9) rfl dX2_countOfDisk_58 ?_
    refine goVI2 hc (kX1_waiting l D k rq s.heap.size ow wr fi sz dl wt bl sh so tn sn un (hsn)) (cwV 0 hts gX2_countOfDisk_X1_waiting rfl rfl rfl (by decide +kernel) ⟨(Nat.le_of_ble_eq_true rfl), (Nat.le_of_ble_eq_true rfl)⟩) hP hD hK hS hA (ci := 1) (q0 := 0) rfl rfl rfl hl.1 rfl (Nat.le_of_ble_eq_true rfl) dX2_countOfDisk_61 (Nat.le_of_ble_eq_true rfl) (Nat.le_of_ble_eq_true rfl) (fun r9 B9 H locs hq hP hD hS => ?_)
    obtain ⟨hr9, rfl⟩ := hq
    subst hr9
    have hP : va_P D vwCl (DkW d (cq 0) (rq 0) ck hd po st sl le ++ (ClW cq k th co bu tg wa se ld ++ (RqW rq k ow wr fi sz dl wt bl sh so tn sn un))) H := hP
    have hD : va_D A (DkW d (cq 0) (rq 0) ck hd po st sl le ++ (ClW cq k th co bu tg wa se ld ++ (RqW rq k ow wr fi sz dl wt bl sh so tn sn un))) := hD
    refine lv_i2l (v := (nI (tn - sn)).toInt64) hx hb dX2_countOfDisk_64 rfl ?_
    exact retL hc dX2_countOfDisk_65 hK hP hD hS (⟨by rw [cdF, if_neg (by decide), if_pos rfl], rfl⟩) (Nat.le_of_ble_eq_true rfl) (Nat.le_of_ble_eq_true rfl)
  by_cases h2 : x = nI 2
  · subst h2
    refine lv_tableIn (off := 65) (tgt := 66) hx hb dX2_countOfDisk_1 (by decide) (by decide) (by decide) (by decide) ?_
    refine lv_aload_n hx hb dX2_countOfDisk_66 rfl (lv_at hl 0 rfl) ?_
    refine va_get (D := D) (ci := 2) (v := .ref (rq 0)) (C := RX2) (T := TX2) (N := 8) hx hb hts iwX2_countOfDisk_X2 hown hK hP 0 rfl rfl 1 (by decide) (hts (Cond.fieldLink RX2 19 "ShareDisk" "requests" "LShareDisk$Requests;") mwX2_countOfDisk_1) (fun _ h9 => h9) rfl dX2_countOfDisk_67 ?_
    refine goVI2 hc (kX1_served l D k rq s.heap.size ow wr fi sz dl wt bl sh so tn sn un) (cwV 0 hts gX2_countOfDisk_X1_served rfl rfl rfl (by decide +kernel) ⟨(Nat.le_of_ble_eq_true rfl), (Nat.le_of_ble_eq_true rfl)⟩) hP hD hK hS hA (ci := 1) (q0 := 0) rfl rfl rfl hl.1 rfl (Nat.le_of_ble_eq_true rfl) dX2_countOfDisk_70 (Nat.le_of_ble_eq_true rfl) (Nat.le_of_ble_eq_true rfl) (fun r9 B9 H locs hq hP hD hS => ?_)
    obtain ⟨hr9, rfl⟩ := hq
    subst hr9
    have hP : va_P D vwCl (DkW d (cq 0) (rq 0) ck hd po st sl le ++ (ClW cq k th co bu tg wa se ld ++ (RqW rq k ow wr fi sz dl wt bl sh so tn sn un))) H := hP
    have hD : va_D A (DkW d (cq 0) (rq 0) ck hd po st sl le ++ (ClW cq k th co bu tg wa se ld ++ (RqW rq k ow wr fi sz dl wt bl sh so tn sn un))) := hD
    refine lv_i2l (v := (nI sn).toInt64) hx hb dX2_countOfDisk_73 rfl ?_
    exact retL hc dX2_countOfDisk_74 hK hP hD hS (⟨by rw [cdF, if_neg (by decide), if_neg (by decide), if_pos rfl], rfl⟩) (Nat.le_of_ble_eq_true rfl) (Nat.le_of_ble_eq_true rfl)
  by_cases h3 : x = nI 3
  · subst h3
    refine lv_tableIn (off := 74) (tgt := 75) hx hb dX2_countOfDisk_1 (by decide) (by decide) (by decide) (by decide) ?_
    refine lv_aload_n hx hb dX2_countOfDisk_75 rfl (lv_at hl 0 rfl) ?_
    refine va_get (D := D) (ci := 2) (v := .ref (rq 0)) (C := RX2) (T := TX2) (N := 8) hx hb hts iwX2_countOfDisk_X2 hown hK hP 0 rfl rfl 1 (by decide) (hts (Cond.fieldLink RX2 19 "ShareDisk" "requests" "LShareDisk$Requests;") mwX2_countOfDisk_1) (fun _ h9 => h9) rfl dX2_countOfDisk_76 ?_
    refine goVI2 hc (kX1_urgent l D k rq s.heap.size ow wr fi sz dl wt bl sh so tn sn un) (cwV 0 hts gX2_countOfDisk_X1_urgent rfl rfl rfl (by decide +kernel) ⟨(Nat.le_of_ble_eq_true rfl), (Nat.le_of_ble_eq_true rfl)⟩) hP hD hK hS hA (ci := 1) (q0 := 0) rfl rfl rfl hl.1 rfl (Nat.le_of_ble_eq_true rfl) dX2_countOfDisk_79 (Nat.le_of_ble_eq_true rfl) (Nat.le_of_ble_eq_true rfl) (fun r9 B9 H locs hq hP hD hS => ?_)
    obtain ⟨hr9, rfl⟩ := hq
    subst hr9
    have hP : va_P D vwCl (DkW d (cq 0) (rq 0) ck hd po st sl le ++ (ClW cq k th co bu tg wa se ld ++ (RqW rq k ow wr fi sz dl wt bl sh so tn sn un))) H := hP
    have hD : va_D A (DkW d (cq 0) (rq 0) ck hd po st sl le ++ (ClW cq k th co bu tg wa se ld ++ (RqW rq k ow wr fi sz dl wt bl sh so tn sn un))) := hD
    refine lv_i2l (v := (nI un).toInt64) hx hb dX2_countOfDisk_82 rfl ?_
    exact retL hc dX2_countOfDisk_83 hK hP hD hS (⟨by rw [cdF, if_neg (by decide), if_neg (by decide), if_neg (by decide), if_pos rfl], rfl⟩) (Nat.le_of_ble_eq_true rfl) (Nat.le_of_ble_eq_true rfl)
  by_cases h4 : x = nI 4
  · subst h4
    refine lv_tableIn (off := 83) (tgt := 84) hx hb dX2_countOfDisk_1 (by decide) (by decide) (by decide) (by decide) ?_
    refine lv_aload_n hx hb dX2_countOfDisk_84 rfl (lv_at hl 0 rfl) ?_
    refine va_get (D := D) (ci := 2) (v := .int hd) (C := RX2) (T := TX2) (N := 8) hx hb hts iwX2_countOfDisk_X2 hown hK hP 0 rfl rfl 3 (by decide) (hts (Cond.fieldLink RX2 97 "ShareDisk" "head" "I") mwX2_countOfDisk_2) (fun _ h9 => h9) rfl dX2_countOfDisk_85 ?_
    refine lv_i2l (v := hd.toInt64) hx hb dX2_countOfDisk_88 rfl ?_
    exact retL hc dX2_countOfDisk_89 hK hP hD hS (⟨by rw [cdF, if_neg (by decide), if_neg (by decide), if_neg (by decide), if_neg (by decide), if_pos rfl], rfl⟩) (Nat.le_of_ble_eq_true rfl) (Nat.le_of_ble_eq_true rfl)
  by_cases h5 : x = nI 5
  · subst h5
    refine lv_tableIn (off := 89) (tgt := 90) hx hb dX2_countOfDisk_1 (by decide) (by decide) (by decide) (by decide) ?_
    refine lv_aload_n hx hb dX2_countOfDisk_90 rfl (lv_at hl 0 rfl) ?_
    refine va_get (D := D) (ci := 2) (v := .long po) (C := RX2) (T := TX2) (N := 8) hx hb hts iwX2_countOfDisk_X2 hown hK hP 0 rfl rfl 4 (by decide) (hts (Cond.fieldLink RX2 143 "ShareDisk" "passedOver" "J") mwX2_countOfDisk_3) (fun _ h9 => h9) rfl dX2_countOfDisk_91 ?_
    exact retL hc dX2_countOfDisk_94 hK hP hD hS (⟨by rw [cdF, if_neg (by decide), if_neg (by decide), if_neg (by decide), if_neg (by decide), if_neg (by decide), if_pos rfl], rfl⟩) (Nat.le_of_ble_eq_true rfl) (Nat.le_of_ble_eq_true rfl)
  by_cases h6 : x = nI 6
  · subst h6
    refine lv_tableIn (off := 94) (tgt := 95) hx hb dX2_countOfDisk_1 (by decide) (by decide) (by decide) (by decide) ?_
    refine lv_aload_n hx hb dX2_countOfDisk_95 rfl (lv_at hl 0 rfl) ?_
    refine va_get (D := D) (ci := 2) (v := .int sl) (C := RX2) (T := TX2) (N := 8) hx hb hts iwX2_countOfDisk_X2 hown hK hP 0 rfl rfl 6 (by decide) (hts (Cond.fieldLink RX2 23 "ShareDisk" "sliceOwner" "I") mwX2_countOfDisk_4) (fun _ h9 => h9) rfl dX2_countOfDisk_96 ?_
    refine lv_i2l (v := sl.toInt64) hx hb dX2_countOfDisk_99 rfl ?_
    exact retL hc dX2_countOfDisk_100 hK hP hD hS (⟨by rw [cdF, if_neg (by decide), if_neg (by decide), if_neg (by decide), if_neg (by decide), if_neg (by decide), if_neg (by decide), if_pos rfl], rfl⟩) (Nat.le_of_ble_eq_true rfl) (Nat.le_of_ble_eq_true rfl)
  by_cases h7 : x = nI 7
  · subst h7
    refine lv_tableIn (off := 100) (tgt := 101) hx hb dX2_countOfDisk_1 (by decide) (by decide) (by decide) (by decide) ?_
    refine lv_aload_n hx hb dX2_countOfDisk_101 rfl (lv_at hl 0 rfl) ?_
    refine va_get (D := D) (ci := 2) (v := .int le) (C := RX2) (T := TX2) (N := 8) hx hb hts iwX2_countOfDisk_X2 hown hK hP 0 rfl rfl 7 (by decide) (hts (Cond.fieldLink RX2 146 "ShareDisk" "sliceLeft" "I") mwX2_countOfDisk_5) (fun _ h9 => h9) rfl dX2_countOfDisk_102 ?_
    refine lv_i2l (v := le.toInt64) hx hb dX2_countOfDisk_105 rfl ?_
    exact retL hc dX2_countOfDisk_106 hK hP hD hS (⟨by rw [cdF, if_neg (by decide), if_neg (by decide), if_neg (by decide), if_neg (by decide), if_neg (by decide), if_neg (by decide), if_neg (by decide), if_pos rfl], rfl⟩) (Nat.le_of_ble_eq_true rfl) (Nat.le_of_ble_eq_true rfl)
  refine lv_tableOut (tgt := 107) hx hb dX2_countOfDisk_1 (tsw_out h0 h1 h2 h3 h4 h5 h6 h7) (by decide) ?_
  refine lv_ldc2 (v := (-1)) hx hb hown (hts (.constantLong RX2 149 (-1)) mwX2_countOfDisk_6) dX2_countOfDisk_107 ?_
  exact retL hc dX2_countOfDisk_110 hK hP hD hS (⟨by simp [cdF, h0, h1, h2, h3, h4, h5, h6, h7], rfl⟩) (Nat.le_of_ble_eq_true rfl) (Nat.le_of_ble_eq_true rfl)
theorem mwX2_count_0 : Cond.fieldLink RX2 10 "ShareDisk" "clients" "LShareDisk$Clients;" ∈ wsX2_count := by decide +kernel
theorem iwX2_count_X2 : ∀ w ∈ wsX20, w ∈ wsX2_count := by decide +kernel
set_option maxHeartbeats 4000000 in
set_option maxRecDepth 100000 in
theorem kX2_count (l : Launch) (D : va_G) (k : Nat → ClassId) (d : Nat) (cq : Nat → Nat) (rq : Nat → Nat) (zz : Nat) (ck : Int64) (hd : Int32) (po st : Int64) (sl le : Int32) (th co bu : Nat → Int32) (tg : Nat → Int64) (wa se : Nat → Int32) (ld : Nat → Nat → Int64) (ow wr fi sz : Nat → Int32) (dl : Nat → Int64) (wt bl sh so : Nat → Int32) (tn sn un : Nat) (x : Int32) (hsn : sn ≤ tn) : ML l yX2_count wsX2_count ({ frames := 2, cells := 0, slots := 0, locals := 43 } : Room) D k (DkW d (cq 0) (rq 0) ck hd po st sl le ++ (ClW cq k th co bu tg wa se ld ++ (RqW rq k ow wr fi sz dl wt bl sh so tn sn un))) zz [.ref d, .int x] (fun r9 w9 => r9 = (cnF th wa se tn sn un hd po sl le x) ∧ w9 = DkW d (cq 0) (rq 0) ck hd po st sl le ++ (ClW cq k th co bu tg wa se ld ++ (RqW rq k ow wr fi sz dl wt bl sh so tn sn un))) 0 0 := by
  refine bodyOf (Qc := fun A => QL D k (fun r9 w9 => r9 = (cnF th wa se tn sn un hd po sl le x) ∧ w9 = DkW d (cq 0) (rq 0) ck hd po st sl le ++ (ClW cq k th co bu tg wa se ld ++ (RqW rq k ow wr fi sz dl wt bl sh so tn sn un))) A) (cc := cX2_count) (maxL := 2) (ret := (some .long)) (by decide) rfl (Nat.le_of_ble_eq_true rfl) ?_
  intro p e s m below meth c A ls hc hA hK hP hD hS hl
  obtain ⟨hx, hb, hml, hr, hts, hown, hlocks, hin⟩ := (show _ from hc)
  have hl : lv_has ls 2 [(0, .ref d), (1, .int x)] := hl
  refine lv_iload_n hx hb dX2_count_0 rfl (lv_at hl 1 rfl) ?_
  refine lv_bipush (v := nI 8) hx hb dX2_count_1 (by decide) ?_
  refine lv_bipush (v := nI 15) hx hb dX2_count_3 (by decide) ?_
  refine goSI hc (kX2_isWithin l D k s.heap.size x (nI 8) (nI 15)) (va_cwS 3 hts gX2_count_X2_isWithin rfl rfl rfl (by decide +kernel) ⟨(Nat.le_of_ble_eq_true rfl), (Nat.le_of_ble_eq_true rfl)⟩) hP hD hK hS hA rfl hl.1 rfl (Nat.le_of_ble_eq_true rfl) dX2_count_5 (Nat.le_of_ble_eq_true rfl) (Nat.le_of_ble_eq_true rfl) (fun r9 B9 H locs hq hP hD hS => ?_)
  obtain ⟨hr9, -⟩ := hq
  subst hr9
  have hP : va_P D vwCl (DkW d (cq 0) (rq 0) ck hd po st sl le ++ (ClW cq k th co bu tg wa se ld ++ (RqW rq k ow wr fi sz dl wt bl sh so tn sn un))) H := hP
  have hD : va_D A (DkW d (cq 0) (rq 0) ck hd po st sl le ++ (ClW cq k th co bu tg wa se ld ++ (RqW rq k ow wr fi sz dl wt bl sh so tn sn un))) := hD
  refine lv_if_eq (tgt := 24) hx hb dX2_count_8 (by decide) (fun c1 => ?_) (fun c1 => ?_)
  · refine lv_iload_n hx hb dX2_count_24 rfl (lv_at hl 1 rfl) ?_
    refine lv_bipush (v := nI 16) hx hb dX2_count_25 (by decide) ?_
    refine lv_bipush (v := nI 23) hx hb dX2_count_27 (by decide) ?_
    refine goSI hc (kX2_isWithin l D k H.size x (nI 16) (nI 23)) (va_cwS 3 hts gX2_count_X2_isWithin rfl rfl rfl (by decide +kernel) ⟨(Nat.le_of_ble_eq_true rfl), (Nat.le_of_ble_eq_true rfl)⟩) hP hD hK hS hA rfl hl.1 rfl (Nat.le_of_ble_eq_true rfl) dX2_count_29 (Nat.le_of_ble_eq_true rfl) (Nat.le_of_ble_eq_true rfl) (fun r9 B9 H locs hq hP hD hS => ?_)
    obtain ⟨hr9, -⟩ := hq
    subst hr9
    have hP : va_P D vwCl (DkW d (cq 0) (rq 0) ck hd po st sl le ++ (ClW cq k th co bu tg wa se ld ++ (RqW rq k ow wr fi sz dl wt bl sh so tn sn un))) H := hP
    have hD : va_D A (DkW d (cq 0) (rq 0) ck hd po st sl le ++ (ClW cq k th co bu tg wa se ld ++ (RqW rq k ow wr fi sz dl wt bl sh so tn sn un))) := hD
    refine lv_if_eq (tgt := 48) hx hb dX2_count_32 (by decide) (fun c2 => ?_) (fun c2 => ?_)
    · refine lv_aload_n hx hb dX2_count_48 rfl (lv_at hl 0 rfl) ?_
      refine lv_iload_n hx hb dX2_count_49 rfl (lv_at hl 1 rfl) ?_
      refine goVL0 hc (kX2_countOfDisk l D k d cq rq H.size ck hd po st sl le th co bu tg wa se ld ow wr fi sz dl wt bl sh so tn sn un x (hsn)) (cwV 1 hts gX2_count_X2_countOfDisk rfl rfl rfl (by decide +kernel) ⟨(Nat.le_of_ble_eq_true rfl), (Nat.le_of_ble_eq_true rfl)⟩) hP hD hK hS hA (ci := 2) (q0 := 0) rfl rfl rfl hl.1 rfl (Nat.le_of_ble_eq_true rfl) dX2_count_50 (Nat.le_of_ble_eq_true rfl) (Nat.le_of_ble_eq_true rfl) (fun r9 B9 H locs hq hP hD hS => ?_)
      obtain ⟨hr9, rfl⟩ := hq
      subst hr9
      have hP : va_P D vwCl (DkW d (cq 0) (rq 0) ck hd po st sl le ++ (ClW cq k th co bu tg wa se ld ++ (RqW rq k ow wr fi sz dl wt bl sh so tn sn un))) H := hP
      have hD : va_D A (DkW d (cq 0) (rq 0) ck hd po st sl le ++ (ClW cq k th co bu tg wa se ld ++ (RqW rq k ow wr fi sz dl wt bl sh so tn sn un))) := hD
      exact retL hc dX2_count_53 hK hP hD hS (⟨by rw [cnF, if_neg (bI_0 c1), if_neg (bI_0 c2)], rfl⟩) (Nat.le_of_ble_eq_true rfl) (Nat.le_of_ble_eq_true rfl)
    · have hi9 := bI_1 c2
      obtain ⟨j, hj1, hj2, rfl⟩ := ofWd hi9 (by decide) (by decide)
      refine lv_aload_n hx hb dX2_count_35 rfl (lv_at hl 0 rfl) ?_
      refine va_get (D := D) (ci := 2) (v := .ref (cq 0)) (C := RX2) (T := TX2) (N := 8) hx hb hts iwX2_count_X2 hown hK hP 0 rfl rfl 0 (by decide) (hts (Cond.fieldLink RX2 10 "ShareDisk" "clients" "LShareDisk$Clients;") mwX2_count_0) (fun _ h9 => h9) rfl dX2_count_36 ?_
      refine lv_iload_n hx hb dX2_count_39 rfl (lv_at hl 1 rfl) ?_
      refine lv_bipush (v := nI 16) hx hb dX2_count_40 (by decide) ?_
      refine lv_isub hx hb dX2_count_42 ?_
      refine lv_topi (fun v ev => ?_)
      obtain rfl : v = nI (j - 16) := ev.trans (pk_sub hj1)
      refine goVI hc (kX0_waitingOf l D k cq H.size th co bu tg wa se ld (j - 16) (by omega)) (cwV 1 hts gX2_count_X0_waitingOf rfl rfl rfl (by decide +kernel) ⟨(Nat.le_of_ble_eq_true rfl), (Nat.le_of_ble_eq_true rfl)⟩) hP hD hK hS hA (ci := 0) (q0 := 0) rfl rfl rfl hl.1 rfl (Nat.le_of_ble_eq_true rfl) dX2_count_43 (Nat.le_of_ble_eq_true rfl) (Nat.le_of_ble_eq_true rfl) (fun r9 B9 H locs hq hP hD hS => ?_)
      obtain ⟨hr9, rfl⟩ := hq
      subst hr9
      have hP : va_P D vwCl (DkW d (cq 0) (rq 0) ck hd po st sl le ++ (ClW cq k th co bu tg wa se ld ++ (RqW rq k ow wr fi sz dl wt bl sh so tn sn un))) H := hP
      have hD : va_D A (DkW d (cq 0) (rq 0) ck hd po st sl le ++ (ClW cq k th co bu tg wa se ld ++ (RqW rq k ow wr fi sz dl wt bl sh so tn sn un))) := hD
      refine lv_i2l (v := (wa (j - 16)).toInt64) hx hb dX2_count_46 rfl ?_
      exact retL hc dX2_count_47 hK hP hD hS (⟨by rw [cnF, if_neg (bI_0 c1), if_pos hi9, nI_clamp (by omega)], rfl⟩) (Nat.le_of_ble_eq_true rfl) (Nat.le_of_ble_eq_true rfl)
  · have hi9 := bI_1 c1
    obtain ⟨j, hj1, hj2, rfl⟩ := ofWd hi9 (by decide) (by decide)
    refine lv_aload_n hx hb dX2_count_11 rfl (lv_at hl 0 rfl) ?_
    refine va_get (D := D) (ci := 2) (v := .ref (cq 0)) (C := RX2) (T := TX2) (N := 8) hx hb hts iwX2_count_X2 hown hK hP 0 rfl rfl 0 (by decide) (hts (Cond.fieldLink RX2 10 "ShareDisk" "clients" "LShareDisk$Clients;") mwX2_count_0) (fun _ h9 => h9) rfl dX2_count_12 ?_
    refine lv_iload_n hx hb dX2_count_15 rfl (lv_at hl 1 rfl) ?_
    refine lv_bipush (v := nI 8) hx hb dX2_count_16 (by decide) ?_
    refine lv_isub hx hb dX2_count_18 ?_
    refine lv_topi (fun v ev => ?_)
    obtain rfl : v = nI (j - 8) := ev.trans (pk_sub hj1)
    refine goVI hc (kX0_sectorsOf l D k cq H.size th co bu tg wa se ld (j - 8) (by omega)) (cwV 1 hts gX2_count_X0_sectorsOf rfl rfl rfl (by decide +kernel) ⟨(Nat.le_of_ble_eq_true rfl), (Nat.le_of_ble_eq_true rfl)⟩) hP hD hK hS hA (ci := 0) (q0 := 0) rfl rfl rfl hl.1 rfl (Nat.le_of_ble_eq_true rfl) dX2_count_19 (Nat.le_of_ble_eq_true rfl) (Nat.le_of_ble_eq_true rfl) (fun r9 B9 H locs hq hP hD hS => ?_)
    obtain ⟨hr9, rfl⟩ := hq
    subst hr9
    have hP : va_P D vwCl (DkW d (cq 0) (rq 0) ck hd po st sl le ++ (ClW cq k th co bu tg wa se ld ++ (RqW rq k ow wr fi sz dl wt bl sh so tn sn un))) H := hP
    have hD : va_D A (DkW d (cq 0) (rq 0) ck hd po st sl le ++ (ClW cq k th co bu tg wa se ld ++ (RqW rq k ow wr fi sz dl wt bl sh so tn sn un))) := hD
    refine lv_i2l (v := (se (j - 8)).toInt64) hx hb dX2_count_22 rfl ?_
    exact retL hc dX2_count_23 hK hP hD hS (⟨by rw [cnF, if_pos hi9, nI_clamp (by omega)], rfl⟩) (Nat.le_of_ble_eq_true rfl) (Nat.le_of_ble_eq_true rfl)
end
