section
-- ===== PART A: goes FIRST, ahead of the names: the tables' words, and 'selects' of the private methods out of them =====
/-- a private method of a class that the tables say can be made, by its rows of tables_1 -/
def lw_okq (q : MethodName × Nat) : Prop := (q.1.cls ≠ "java/lang/invoke/MethodHandle" ∧ q.1.cls ≠ "java/lang/invoke/VarHandle") ∧ Cond.instantiable q.1.cls q.2 ∈ tables_1 ∧ Cond.privateMethod q.1 ∈ tables_1 ∧ Cond.instanceMethod q.1 ∈ tables_1
theorem lw_p0 : lw_okq (⟨"ShareDisk", "serve", "(II)V"⟩, 8) := ⟨⟨by decide +kernel, by decide +kernel⟩, List.mem_of_getElem? (i := 13) (by decide +kernel), List.mem_of_getElem? (i := 134) (by decide +kernel), List.mem_of_getElem? (i := 135) (by decide +kernel)⟩
theorem lw_p1 : lw_okq (⟨"ShareDisk", "moveHead", "(II)V"⟩, 8) := ⟨⟨by decide +kernel, by decide +kernel⟩, List.mem_of_getElem? (i := 13) (by decide +kernel), List.mem_of_getElem? (i := 150) (by decide +kernel), List.mem_of_getElem? (i := 151) (by decide +kernel)⟩
theorem lw_p2 : lw_okq (⟨"ShareDisk$Requests", "mustKeepOrder", "(II)Z"⟩, 12) := ⟨⟨by decide +kernel, by decide +kernel⟩, List.mem_of_getElem? (i := 54) (by decide +kernel), List.mem_of_getElem? (i := 161) (by decide +kernel), List.mem_of_getElem? (i := 162) (by decide +kernel)⟩
theorem lw_p3 : lw_okq (⟨"ShareDisk", "takeFromSlice", "(I)V"⟩, 8) := ⟨⟨by decide +kernel, by decide +kernel⟩, List.mem_of_getElem? (i := 13) (by decide +kernel), List.mem_of_getElem? (i := 169) (by decide +kernel), List.mem_of_getElem? (i := 170) (by decide +kernel)⟩
theorem lw_p4 : lw_okq (⟨"ShareDisk", "endSlice", "()V"⟩, 8) := ⟨⟨by decide +kernel, by decide +kernel⟩, List.mem_of_getElem? (i := 13) (by decide +kernel), List.mem_of_getElem? (i := 177) (by decide +kernel), List.mem_of_getElem? (i := 178) (by decide +kernel)⟩
theorem lw_p5 : lw_okq (⟨"ShareDisk", "beginSlice", "()V"⟩, 8) := ⟨⟨by decide +kernel, by decide +kernel⟩, List.mem_of_getElem? (i := 13) (by decide +kernel), List.mem_of_getElem? (i := 192) (by decide +kernel), List.mem_of_getElem? (i := 193) (by decide +kernel)⟩
theorem lw_p6 : lw_okq (⟨"ShareDisk$Requests", "turnOf", "(II)I"⟩, 12) := ⟨⟨by decide +kernel, by decide +kernel⟩, List.mem_of_getElem? (i := 54) (by decide +kernel), List.mem_of_getElem? (i := 212) (by decide +kernel), List.mem_of_getElem? (i := 213) (by decide +kernel)⟩
theorem lw_p7 : lw_okq (⟨"ShareDisk", "countOfDisk", "(I)J"⟩, 8) := ⟨⟨by decide +kernel, by decide +kernel⟩, List.mem_of_getElem? (i := 13) (by decide +kernel), List.mem_of_getElem? (i := 236) (by decide +kernel), List.mem_of_getElem? (i := 237) (by decide +kernel)⟩
theorem lw_p8 : lw_okq (⟨"java/lang/Throwable", "fillInStackTrace", "(I)Ljava/lang/Throwable;"⟩, 6) := ⟨⟨by decide +kernel, by decide +kernel⟩, List.mem_of_getElem? (i := 299) (by decide +kernel), List.mem_of_getElem? (i := 297) (by decide +kernel), List.mem_of_getElem? (i := 298) (by decide +kernel)⟩
theorem lw_p9 : lw_okq (⟨"ShareDisk", "requireThere", "(I)V"⟩, 8) := ⟨⟨by decide +kernel, by decide +kernel⟩, List.mem_of_getElem? (i := 13) (by decide +kernel), List.mem_of_getElem? (i := 344) (by decide +kernel), List.mem_of_getElem? (i := 345) (by decide +kernel)⟩
theorem lw_p10 : lw_okq (⟨"ShareDisk$Clients", "forgetLead", "(I)V"⟩, 7) := ⟨⟨by decide +kernel, by decide +kernel⟩, List.mem_of_getElem? (i := 21) (by decide +kernel), List.mem_of_getElem? (i := 387) (by decide +kernel), List.mem_of_getElem? (i := 388) (by decide +kernel)⟩
theorem lw_p11 : lw_okq (⟨"ShareDiskModel", "fails", "(ZZ)Z"⟩, 24) := ⟨⟨by decide +kernel, by decide +kernel⟩, List.mem_of_getElem? (i := 448) (by decide +kernel), List.mem_of_getElem? (i := 541) (by decide +kernel), List.mem_of_getElem? (i := 542) (by decide +kernel)⟩
theorem lw_p12 : lw_okq (⟨"ShareDiskModel", "isThere", "(I)Z"⟩, 24) := ⟨⟨by decide +kernel, by decide +kernel⟩, List.mem_of_getElem? (i := 448) (by decide +kernel), List.mem_of_getElem? (i := 549) (by decide +kernel), List.mem_of_getElem? (i := 550) (by decide +kernel)⟩
theorem lw_p13 : lw_okq (⟨"ShareDiskModel", "waiting", "(I)I"⟩, 24) := ⟨⟨by decide +kernel, by decide +kernel⟩, List.mem_of_getElem? (i := 448) (by decide +kernel), List.mem_of_getElem? (i := 553) (by decide +kernel), List.mem_of_getElem? (i := 554) (by decide +kernel)⟩
theorem lw_p14 : lw_okq (⟨"ShareDiskModel", "end", "()V"⟩, 24) := ⟨⟨by decide +kernel, by decide +kernel⟩, List.mem_of_getElem? (i := 448) (by decide +kernel), List.mem_of_getElem? (i := 557) (by decide +kernel), List.mem_of_getElem? (i := 558) (by decide +kernel)⟩
theorem lw_p15 : lw_okq (⟨"ShareDiskModel", "begin", "(I)V"⟩, 24) := ⟨⟨by decide +kernel, by decide +kernel⟩, List.mem_of_getElem? (i := 448) (by decide +kernel), List.mem_of_getElem? (i := 569) (by decide +kernel), List.mem_of_getElem? (i := 570) (by decide +kernel)⟩
def lw_privs_1 : List (MethodName × Nat) := [(⟨"ShareDisk", "serve", "(II)V"⟩, 8), (⟨"ShareDisk", "moveHead", "(II)V"⟩, 8), (⟨"ShareDisk$Requests", "mustKeepOrder", "(II)Z"⟩, 12), (⟨"ShareDisk", "takeFromSlice", "(I)V"⟩, 8), (⟨"ShareDisk", "endSlice", "()V"⟩, 8), (⟨"ShareDisk", "beginSlice", "()V"⟩, 8), (⟨"ShareDisk$Requests", "turnOf", "(II)I"⟩, 12), (⟨"ShareDisk", "countOfDisk", "(I)J"⟩, 8), (⟨"java/lang/Throwable", "fillInStackTrace", "(I)Ljava/lang/Throwable;"⟩, 6), (⟨"ShareDisk", "requireThere", "(I)V"⟩, 8), (⟨"ShareDisk$Clients", "forgetLead", "(I)V"⟩, 7), (⟨"ShareDiskModel", "fails", "(ZZ)Z"⟩, 24), (⟨"ShareDiskModel", "isThere", "(I)Z"⟩, 24), (⟨"ShareDiskModel", "waiting", "(I)I"⟩, 24), (⟨"ShareDiskModel", "end", "()V"⟩, 24), (⟨"ShareDiskModel", "begin", "(I)V"⟩, 24)]
theorem lw_r1 : ∀ q ∈ lw_privs_1, lw_okq q := List.forall_mem_cons.mpr ⟨lw_p0, List.forall_mem_cons.mpr ⟨lw_p1, List.forall_mem_cons.mpr ⟨lw_p2, List.forall_mem_cons.mpr ⟨lw_p3, List.forall_mem_cons.mpr ⟨lw_p4, List.forall_mem_cons.mpr ⟨lw_p5, List.forall_mem_cons.mpr ⟨lw_p6, List.forall_mem_cons.mpr ⟨lw_p7, List.forall_mem_cons.mpr ⟨lw_p8, List.forall_mem_cons.mpr ⟨lw_p9, List.forall_mem_cons.mpr ⟨lw_p10, List.forall_mem_cons.mpr ⟨lw_p11, List.forall_mem_cons.mpr ⟨lw_p12, List.forall_mem_cons.mpr ⟨lw_p13, List.forall_mem_cons.mpr ⟨lw_p14, List.forall_mem_cons.mpr ⟨lw_p15, fun _ h => absurd h List.not_mem_nil⟩⟩⟩⟩⟩⟩⟩⟩⟩⟩⟩⟩⟩⟩⟩⟩
theorem lw_p16 : lw_okq (⟨"ShareDiskModel", "due", "()I"⟩, 24) := ⟨⟨by decide +kernel, by decide +kernel⟩, List.mem_of_getElem? (i := 448) (by decide +kernel), List.mem_of_getElem? (i := 577) (by decide +kernel), List.mem_of_getElem? (i := 578) (by decide +kernel)⟩
theorem lw_p17 : lw_okq (⟨"ShareDiskModel", "canGo", "(I)Z"⟩, 24) := ⟨⟨by decide +kernel, by decide +kernel⟩, List.mem_of_getElem? (i := 448) (by decide +kernel), List.mem_of_getElem? (i := 581) (by decide +kernel), List.mem_of_getElem? (i := 582) (by decide +kernel)⟩
theorem lw_p18 : lw_okq (⟨"ShareDiskModel", "isBlocked", "(I)Z"⟩, 24) := ⟨⟨by decide +kernel, by decide +kernel⟩, List.mem_of_getElem? (i := 448) (by decide +kernel), List.mem_of_getElem? (i := 585) (by decide +kernel), List.mem_of_getElem? (i := 586) (by decide +kernel)⟩
theorem lw_p19 : lw_okq (⟨"ShareDiskModel", "choose", "()V"⟩, 24) := ⟨⟨by decide +kernel, by decide +kernel⟩, List.mem_of_getElem? (i := 448) (by decide +kernel), List.mem_of_getElem? (i := 589) (by decide +kernel), List.mem_of_getElem? (i := 590) (by decide +kernel)⟩
theorem lw_p20 : lw_okq (⟨"ShareDiskModel", "next", "()I"⟩, 24) := ⟨⟨by decide +kernel, by decide +kernel⟩, List.mem_of_getElem? (i := 448) (by decide +kernel), List.mem_of_getElem? (i := 593) (by decide +kernel), List.mem_of_getElem? (i := 594) (by decide +kernel)⟩
theorem lw_p21 : lw_okq (⟨"ShareDiskModel", "ahead", "(I)I"⟩, 24) := ⟨⟨by decide +kernel, by decide +kernel⟩, List.mem_of_getElem? (i := 448) (by decide +kernel), List.mem_of_getElem? (i := 597) (by decide +kernel), List.mem_of_getElem? (i := 598) (by decide +kernel)⟩
theorem lw_p22 : lw_okq (⟨"ShareDiskModel", "serve", "(IZ)V"⟩, 24) := ⟨⟨by decide +kernel, by decide +kernel⟩, List.mem_of_getElem? (i := 448) (by decide +kernel), List.mem_of_getElem? (i := 602) (by decide +kernel), List.mem_of_getElem? (i := 603) (by decide +kernel)⟩
def lw_privs_2 : List (MethodName × Nat) := [(⟨"ShareDiskModel", "due", "()I"⟩, 24), (⟨"ShareDiskModel", "canGo", "(I)Z"⟩, 24), (⟨"ShareDiskModel", "isBlocked", "(I)Z"⟩, 24), (⟨"ShareDiskModel", "choose", "()V"⟩, 24), (⟨"ShareDiskModel", "next", "()I"⟩, 24), (⟨"ShareDiskModel", "ahead", "(I)I"⟩, 24), (⟨"ShareDiskModel", "serve", "(IZ)V"⟩, 24)]
theorem lw_r2 : ∀ q ∈ lw_privs_2, lw_okq q := List.forall_mem_cons.mpr ⟨lw_p16, List.forall_mem_cons.mpr ⟨lw_p17, List.forall_mem_cons.mpr ⟨lw_p18, List.forall_mem_cons.mpr ⟨lw_p19, List.forall_mem_cons.mpr ⟨lw_p20, List.forall_mem_cons.mpr ⟨lw_p21, List.forall_mem_cons.mpr ⟨lw_p22, fun _ h => absurd h List.not_mem_nil⟩⟩⟩⟩⟩⟩⟩
def lw_privs : List (MethodName × Nat) := lw_privs_1 ++ (lw_privs_2)
def lw_tbl : List Cond := k2_sels lw_privs ++ tables_1
theorem lw_privs_ok : ∀ q ∈ lw_privs, lw_okq q := by
  show ∀ q ∈ lw_privs_1 ++ (lw_privs_2), lw_okq q
  exact List.forall_mem_append.mpr ⟨lw_r1, lw_r2⟩
end
section
/-! ===== BEGIN words of one list among another's, by their places ===== -/
theorem goodIn_r {big : List Cond} (ws : List Cond) (ps : List Nat) (hp : ws = ps.filterMap (fun i => big[i]?)) (h : ws.all goodWord = true) : GoodIn big ws := by
  intro w hw
  have h1 := List.all_eq_true.mp h w hw
  rw [hp] at hw
  obtain ⟨i, -, hi⟩ := List.mem_filterMap.mp hw
  have hm : w ∈ big := by first | exact List.mem_of_getElem? hi | exact List.getElem?_mem hi
  exact ⟨hm, good_of_word h1⟩
theorem goodIn_app {big a b : List Cond} (ha : GoodIn big a) (hb : GoodIn big b) : GoodIn big (a ++ b) := fun w h => (List.mem_append.mp h).elim (ha w) (hb w)
theorem goodIn_ca {big a b : List Cond} {c : Cond} (ha : GoodIn big (c :: a)) (hb : GoodIn big b) : GoodIn big (c :: (a ++ b)) := fun w h => (List.mem_cons.mp h).elim (fun e => ha w (List.mem_cons.mpr (Or.inl e))) (fun h => (List.mem_append.mp h).elim (fun h => ha w (List.mem_cons.mpr (Or.inr h))) (hb w))
theorem goodIn_sub {big ws : List Cond} (hm : ∀ w ∈ ws, w ∈ big) (h : ws.all goodWord = true) : GoodIn big ws := fun w hw => ⟨hm w hw, good_of_word (List.all_eq_true.mp h w hw)⟩
/-! ===== END ===== -/


/-! ===== BEGIN exceptions that leave a method, and their catching by the caller (launches without stack traces) ===== -/
section VXA
/-! The laws vx_back, vx_callV, vx_callS, vx_callSW, vx_throw0, vx_throwS follow proofs of the library, with one case more: JvmDerived/Free/Laws.lean (Back.of_free), Shelf42/LK1.lean (callV, callS), Shelf/KitTraced.lean (throwNew0V, throwNewS). -/
/-- where a method has thrown q: the class by its name, the cell, what was written, the world -/
def vx_T (XC : String → State → State → Prop) (st : State) (q : Addr) (t : State) (mc ms : Nat) (free : Addr → Prop) : Prop :=
  ∃ (E : String) (ce : Cell) (L : List Loc), XC E st t ∧ t.heap[q]? = some ce ∧ ce.vm = .none ∧ st.vm.findClass E = some ce.cls ∧ st.WarmedH t.vm ∧ st.sameButNew ({ t with vm := st.vm } : State) L mc ms ∧ ∀ z ∈ L, free z.base
def vx_Q (Qc : Array Value → State → Outcome → State → Prop) (XC : String → State → State → Prop) (mc ms : Nat) (free : Addr → Prop) : Array Value → State → Outcome → State → Prop := fun a st o t =>
  (Qc a st o t ∧ ∃ L, FrameEnd st o t L mc ms ∧ ∀ q ∈ L, free q.base) ∨ ∃ q, o = .threw q ∧ vx_T XC st q t mc ms free
/-- a callee that returns or throws -/
def vx_Met (l : Launch) (y : MethodName) (ws : List Cond) (rm : Room) (Pc : Array Value → State → Prop) (Qc : Array Value → State → Outcome → State → Prop) (XC : String → State → State → Prop) (mc ms : Nat) (free : Addr → Prop) : Prop :=
  MetFree l y (headSpec ws rm) Pc (fun _ _ _ _ _ => True) (vx_Q Qc XC mc ms free)
def vx_Post (XC : String → State → State → Prop) (mc ms : Nat) (free : Addr → Prop) : Pt → Array Value → Addr → Pt → Prop := fun A a q B =>
  ∃ (g : JFrame) (mk : MethodId) (t : State) (L : List Loc) (E : String) (ce : Cell), B.U.heap = t.heap ∧ B.U.vm = t.vm ∧ XC E (A.U.calling g mk a) t ∧ t.heap[q]? = some ce ∧ ce.vm = .none ∧ A.U.vm.findClass E = some ce.cls ∧ B.locs = A.locs ++ L ∧ (∀ z ∈ L, free z.base) ∧ B.cells = A.cells + mc ∧ B.slots = A.slots + ms
def vx_Back (l : Launch) (R : Room) (p : Program) (e : Env) (below : List Frame) (s : State) (sargs : Array Value) (y : MethodName) (len W9 : Nat)
    (Pre : Pt → Array Value → Prop) (Post : Pt → Array Value → Option Value → Pt → Prop) (PostX : Pt → Array Value → Addr → Pt → Prop) : Prop :=
  ∀ (m : MethodId) (meth : Method) (c : Code) (A : Pt) (g : JFrame) (ig : Instr) (mk : MethodId) (a : Array Value),
    Stand p l e R s m sargs below meth c A.U A.locs A.cells A.slots → g.method = m → g.locals.size = c.maxLocals → decode c.code g.pc = .ok (ig, len) →
    2 * g.monitorRoom + (g.stack.map fun v => v.category).sum ≤ W9 → A.U.methodNamed? y = some mk → Pre A a →
    (∃ (v : Option Value) (B : Pt), Stand p l e R s m sargs below meth c B.U B.locs B.cells B.slots ∧ Post A a v B ∧
      Steps p.tables e below (doInvoke e (A.U.setTop g) [] mk a).1 (B.U.setTop { g with pc := g.pc + len, stack := v.toList ++ g.stack })) ∨
    (∃ (q : Addr) (B : Pt), Stand p l e R s m sargs below meth c B.U B.locs B.cells B.slots ∧ PostX A a q B ∧
      Steps p.tables e below (doInvoke e (A.U.setTop g) [] mk a).1 ((B.U.setTop g).pushFrame (.throwing q)))
section Payer
variable {l : Launch} {R : Room} {p : Program} {e : Env} {below : List Frame} {s : State} {sargs : Array Value} {y : MethodName} {len W9 : Nat}
theorem vx_back {ws : List Cond} {rm : Room} {Pc : Array Value → State → Prop} {Qc : Array Value → State → Outcome → State → Prop} {XC : String → State → State → Prop} {mc ms : Nat} {free : Addr → Prop} {bytes : ByteArray} {maxL : Nat} {ret : Option FieldType}
    (hM : vx_Met l y ws rm Pc Qc XC mc ms free) (hblind : FrameBlind Pc) (hrc : rm.cells = mc) (hrs : rm.slots = ms)
    (hframes : rm.frames + 1 ≤ R.frames) (hlocals : W9 + (maxL + 11) + rm.locals ≤ R.locals)
    (hws : ∀ w ∈ ws, ∀ a' U, s.WarmedH U.vm → w.before a' U = true) (hcode : Cond.code y bytes maxL ret ∈ ws) (hinit : ∀ a' U, s.WarmedH U.vm → (Cond.initialized y.cls).before a' U = true) :
    vx_Back l R p e below s sargs y len W9 (PreOf R mc ms Pc) (PostOf Qc mc ms free) (vx_Post XC mc ms free) := by
  intro m meth c A g ig mk a X hg hsize hdg hW hn hp
  have h1 : (headSpec ws rm).pre.before a A.U = true := atoms_intro fun w hw => hws w hw _ _ X.warmed
  have h2 : (Cond.code y bytes maxL ret).before a A.U = true := hws _ hcode _ _ X.warmed
  have h3 : (Cond.initialized y.cls).before a A.U = true := hinit _ _ X.warmed
  have h4 : A.cells + (headSpec ws rm).room.cells ≤ R.cells := by rw [show (headSpec ws rm).room.cells = mc from hrc]; exact hp.1
  have h5 : A.slots + (headSpec ws rm).room.slots ≤ R.slots := by rw [show (headSpec ws rm).room.slots = ms from hrs]; exact hp.2.1
  have hPc : Pc a (A.U.calling g mk a) := hblind _ _ _ _ hp.2.2
  obtain ⟨U, Ls, c0, s0⟩ := A
  dsimp only [Pt.U, Pt.locs, Pt.cells, Pt.slots] at h1 h2 h3 h4 h5 X hn hPc ⊢
  obtain ⟨methY, cY, hmY, hcY, -, hlY, -, -, -, -⟩ := Cond.code_spec hn h2
  obtain ⟨kY, hkY, -⟩ := className_of_methodNamed hn
  have hinitY : kY.init = .initialized := Cond.initialized_spec (findClass_of_methodNamed hn) hkY h3
  have h : At U g.method c below := by rw [hg]; exact X.here
  have hlocals9 : W9 + (maxL + 11) + (headSpec ws rm).room.locals ≤ R.locals := hlocals
  have happ : (headSpec ws rm).appliesLoose y e.platform (U.calling g mk a) = true :=
    Spec.appliesLoose_calling (g := g) h hdg hn hkY hinitY
      (X.room_calling (g := g) (R' := (headSpec ws rm).room) hsize hmY hcY hframes (by rw [hlY]; omega) h4 h5) h1
  obtain ⟨mid, hmid⟩ := h.above
  have hfr : (U.setTop g).frames = (.java g :: mid) ++ below := by rw [State.frames_setTop' g h.top, hmid]; rfl
  obtain ⟨o, s₂, hsteps, -, hend, hq⟩ := Steps.callFree hM p X.admits X.cas X.clock (acts := []) hfr happ hPc trivial
  have hq' : vx_Q Qc XC mc ms free a (U.calling g mk a) o s₂ := hq
  rw [State.frames_setTop' g h.top] at hend
  obtain ⟨g₀, hg0⟩ := Option.isSome_iff_exists.mp h.top
  obtain ⟨r, hr⟩ := State.topJava?_eq_some.mp hg0
  have hr' : (({ U with heap := s₂.heap, slotsUsed := s₂.slotsUsed } : State).setVm s₂.vm).frames = .java g₀ :: r := hr
  rcases hq' with ⟨hqc, L, hfe, hL⟩ | ⟨q, rfl, E, ce, L, hx, hce, hcv, hcl, hW₂, hsm, hL⟩
  · obtain ⟨⟨v, rfl⟩, hW₂, e2, q2, q3, q4, q5, q6⟩ := id hfe
    have e3 : s₂ = ({ (U.calling g mk a).setFrames s₂.frames with heap := s₂.heap, slotsUsed := s₂.slotsUsed } : State).setVm s₂.vm := by
      have : s₂ = ({ s₂ with vm := (U.calling g mk a).vm } : State).setVm s₂.vm := rfl
      rw [e2] at this
      exact this
    obtain ⟨c₂, i₂, len₂, hc₂, hd₂, hf₂⟩ := hend
    have hW' : U.WarmedH s₂.vm := hW₂
    have hcc : c₂ = c := by
      have h1 : s₂.code? g.method = U.code? g.method := by
        rw [State.code?_eq, State.code?_eq, hW'.alike.method?]
      exact Option.some.inj (hc₂.symm.trans (h1.trans h.code))
    subst hcc
    have hlen : len₂ = len := by rw [hdg] at hd₂; cases hd₂; rfl
    subst hlen
    have hs₂ : s₂ = (({ U with heap := s₂.heap, slotsUsed := s₂.slotsUsed } : State).setVm s₂.vm).setTop { g with pc := g.pc + len₂, stack := v.toList ++ g.stack } := by
      refine e3.trans ?_
      rw [hf₂, State.calling_eq h.top, State.setFrames_setFrames, State.setTop_of_frames _ hr', hr]
      rfl
    have hsame : U.sameButNew ({ U with heap := s₂.heap, slotsUsed := s₂.slotsUsed } : State) L mc ms := by
      refine ⟨?_, q2, q3, q4, q5, q6⟩
      obtain ⟨t, ht, -⟩ := State.frames_cons hr
      show ({ U with heap := s₂.heap, slotsUsed := s₂.slotsUsed } : State) = { U.setFrames U.frames with heap := s₂.heap, slotsUsed := s₂.slotsUsed }
      rw [State.setFrames_self ht]
    subst hg
    refine Or.inl ⟨v, ⟨(({ U with heap := s₂.heap, slotsUsed := s₂.slotsUsed } : State).setVm s₂.vm), Ls ++ L, c0 + mc, s0 + ms⟩,
      ⟨X.admits, X.cas, X.clock, X.frames, X.room, X.hears, X.method, X.code, (X.here.setHeapUsed s₂.heap s₂.slotsUsed).setVm hW'.alike, X.tail, State.WarmedH.trans X.warmed hW', X.limits, X.bytes, X.same.trans (hsame.setVm s.vm)⟩,
      ⟨g, mk, s₂, L, rfl, rfl, hqc, rfl, hL, rfl, rfl⟩, ?_⟩
    show Steps p.tables e below _ ((({ U with heap := s₂.heap, slotsUsed := s₂.slotsUsed } : State).setVm s₂.vm).setTop { g with pc := g.pc + len₂, stack := v.toList ++ g.stack })
    rw [← hs₂]
    exact hsteps
  · obtain ⟨e2, q2, q3, q4, q5, q6⟩ := id hsm
    have e3 : s₂ = ({ (U.calling g mk a).setFrames s₂.frames with heap := s₂.heap, slotsUsed := s₂.slotsUsed } : State).setVm s₂.vm := by
      have : s₂ = ({ s₂ with vm := (U.calling g mk a).vm } : State).setVm s₂.vm := rfl
      rw [e2] at this
      exact this
    have hf₂ : s₂.frames = .throwing q :: .java g :: U.frames.tail := hend
    have hW' : U.WarmedH s₂.vm := hW₂
    have hs₂ : s₂ = ((({ U with heap := s₂.heap, slotsUsed := s₂.slotsUsed } : State).setVm s₂.vm).setTop g).pushFrame (.throwing q) := by
      refine e3.trans ?_
      rw [hf₂, State.calling_eq h.top, State.setFrames_setFrames, State.pushFrame, State.frames_setTop _ hr', State.setTop_of_frames _ hr', State.setFrames_setFrames, hr]
      rfl
    have hsame : U.sameButNew ({ U with heap := s₂.heap, slotsUsed := s₂.slotsUsed } : State) L mc ms := by
      refine ⟨?_, q2, q3, q4, q5, q6⟩
      obtain ⟨t, ht, -⟩ := State.frames_cons hr
      show ({ U with heap := s₂.heap, slotsUsed := s₂.slotsUsed } : State) = { U.setFrames U.frames with heap := s₂.heap, slotsUsed := s₂.slotsUsed }
      rw [State.setFrames_self ht]
    subst hg
    refine Or.inr ⟨q, ⟨(({ U with heap := s₂.heap, slotsUsed := s₂.slotsUsed } : State).setVm s₂.vm), Ls ++ L, c0 + mc, s0 + ms⟩,
      ⟨X.admits, X.cas, X.clock, X.frames, X.room, X.hears, X.method, X.code, (X.here.setHeapUsed s₂.heap s₂.slotsUsed).setVm hW'.alike, X.tail, State.WarmedH.trans X.warmed hW', X.limits, X.bytes, X.same.trans (hsame.setVm s.vm)⟩,
      ⟨g, mk, s₂, L, E, ce, rfl, rfl, hx, hce, hcv, hcl, rfl, hL, rfl, rfl⟩, ?_⟩
    show Steps p.tables e below _ (((({ U with heap := s₂.heap, slotsUsed := s₂.slotsUsed } : State).setVm s₂.vm).setTop g).pushFrame (.throwing q))
    rw [← hs₂]
    exact hsteps
end Payer
section Calls
variable {p : Program} {l : Launch} {e : Env} {R : Room} {s : State} {m : MethodId} {args : Array Value} {below : List Frame} {meth : Method} {c : Code} {T : State} {locs : List Loc} {cells slots : Nat}
theorem vx_callV (X : Stand p l e R s m args below meth c T locs cells slots) (hexec : p.tables.exec = Jvm.exec) {own C : String} {index : Nat} {y : MethodName} {bytes : ByteArray} {maxL : Nat} {ret : Option FieldType}
    (hown : s.vm.findClass own = some m.cls) (hlink : (Cond.methodLink own index y).before args s = true) (hinst : (Cond.instanceMethod y).before args s = true) (hsel : (Cond.selects C y y).before args s = true)
    (hcode : (Cond.code y bytes maxL ret).before args s = true) (hy : y.cls ≠ "java/lang/invoke/MethodHandle" ∧ y.cls ≠ "java/lang/invoke/VarHandle")
    {W9 : Nat} {Pre : Pt → Array Value → Prop} {Post : Pt → Array Value → Option Value → Pt → Prop} {PostX : Pt → Array Value → Addr → Pt → Prop} (hK : vx_Back l R p e below s args y 3 W9 Pre Post PostX)
    {b : Addr} {cellB : Cell} (hcell : T.heap[b]? = some cellB) (hobj : cellB.vm.isStatics = false) (hcls : s.vm.findClass C = some cellB.cls)
    {g : JFrame} (hg : g.method = m) (hsize : g.locals.size = c.maxLocals) {argsL rest : List Value} (hlen : ∀ sig, parseMethodDescriptor y.desc = some sig → argsL.length = sig.parameters.length)
    (hstack : g.stack = argsL.reverse ++ .ref b :: rest) (hW : 2 * g.monitorRoom + (rest.map fun v => v.category).sum ≤ W9) (hdg : decode c.code g.pc = .ok (.invokevirtual index, 3))
    (hpre : ∀ vm₁, s.WarmedH vm₁ → Pre ⟨T.setVm vm₁, locs, cells, slots⟩ (Value.ref b :: argsL).toArray) :
    (∃ (v : Option Value) (vm₁ : Vm) (B : Pt), s.WarmedH vm₁ ∧ Stand p l e R s m args below meth c B.U B.locs B.cells B.slots ∧ Post ⟨T.setVm vm₁, locs, cells, slots⟩ (Value.ref b :: argsL).toArray v B ∧
      ∀ target, Steps p.tables e below (B.U.setTop { g with pc := g.pc + 3, stack := v.toList ++ rest }) target → Steps p.tables e below (T.setTop g) target) ∨
    (∃ (q : Addr) (vm₁ : Vm) (B : Pt), s.WarmedH vm₁ ∧ Stand p l e R s m args below meth c B.U B.locs B.cells B.slots ∧ PostX ⟨T.setVm vm₁, locs, cells, slots⟩ (Value.ref b :: argsL).toArray q B ∧
      Steps p.tables e below (T.setTop g) ((B.U.setTop { g with stack := rest }).pushFrame (.throwing q))) := by
  obtain ⟨mk, methM, hnamed, hmethM, hstM, habM⟩ := Cond.instanceMethod_spec hinst
  obtain ⟨methM', cM, hmethM', -, -, -, -, -, -, hsigM⟩ := Cond.code_spec hnamed hcode
  cases hmethM.symm.trans hmethM'
  obtain ⟨c2, r2, m2, q1, q2, q3, q4, kP, hkP, hkPi⟩ := Cond.selects_spec hsel
  cases hcls.symm.trans q1
  cases (State.methodFound?_of_named hnamed hy).symm.trans q2
  cases hnamed.symm.trans q3
  have hselP : selectMethod e.platform s.vm cellB.cls mk = .method mk := by rw [Launch.admits_selectMethod X.admits]; exact q4
  obtain ⟨vm₁, X₁, hstep₁⟩ := X.invokevirtual hexec hown hlink hnamed hmethM hstM hkP hkPi hy (a := b) (cell := cellB) hcell
    (fun z h => by rw [h] at hobj; cases hobj) hselP hmethM habM hkP hkPi (g := g) hg (argsL := argsL) (rest := rest) (hlen _ hsigM) hstack hdg
  rcases hK m meth c ⟨T.setVm vm₁, locs, cells, slots⟩ { g with stack := rest } (.invokevirtual index) mk (Value.ref b :: argsL).toArray X₁ hg hsize hdg hW (X₁.named hnamed) (hpre vm₁ X₁.warmed) with ⟨v, B, X', hpost, hsteps⟩ | ⟨q, B, X', hpost, hsteps⟩
  · exact Or.inl ⟨v, vm₁, B, X₁.warmed, X', hpost, fun target h => hstep₁ _ fun acts => by rw [doInvoke_state]; exact hsteps.trans h⟩
  · exact Or.inr ⟨q, vm₁, B, X₁.warmed, X', hpost, hstep₁ _ fun acts => by rw [doInvoke_state]; exact hsteps⟩
theorem vx_callS (X : Stand p l e R s m args below meth c T locs cells slots) (hexec : p.tables.exec = Jvm.exec) {own : String} {index : Nat} {y : MethodName} {bytes : ByteArray} {maxL : Nat} {ret : Option FieldType}
    (hown : s.vm.findClass own = some m.cls) (hlink : (Cond.methodLink own index y).before args s = true) (hstat : (Cond.static y).before args s = true) (hinit : (Cond.initialized y.cls).before args s = true)
    (hcode : (Cond.code y bytes maxL ret).before args s = true) (hy : y.cls ≠ "java/lang/invoke/MethodHandle" ∧ y.cls ≠ "java/lang/invoke/VarHandle")
    {W9 : Nat} {Pre : Pt → Array Value → Prop} {Post : Pt → Array Value → Option Value → Pt → Prop} {PostX : Pt → Array Value → Addr → Pt → Prop} (hK : vx_Back l R p e below s args y 3 W9 Pre Post PostX)
    {g : JFrame} (hg : g.method = m) (hsize : g.locals.size = c.maxLocals) {argsL rest : List Value} (hlen : ∀ sig, parseMethodDescriptor y.desc = some sig → argsL.length = sig.parameters.length)
    (hstack : g.stack = argsL.reverse ++ rest) (hW : 2 * g.monitorRoom + (rest.map fun v => v.category).sum ≤ W9) (hdg : decode c.code g.pc = .ok (.invokestatic index, 3))
    (hpre : ∀ vm₁, s.WarmedH vm₁ → Pre ⟨T.setVm vm₁, locs, cells, slots⟩ argsL.toArray) :
    (∃ (v : Option Value) (vm₁ : Vm) (B : Pt), s.WarmedH vm₁ ∧ Stand p l e R s m args below meth c B.U B.locs B.cells B.slots ∧ Post ⟨T.setVm vm₁, locs, cells, slots⟩ argsL.toArray v B ∧
      ∀ target, Steps p.tables e below (B.U.setTop { g with pc := g.pc + 3, stack := v.toList ++ rest }) target → Steps p.tables e below (T.setTop g) target) ∨
    (∃ (q : Addr) (vm₁ : Vm) (B : Pt), s.WarmedH vm₁ ∧ Stand p l e R s m args below meth c B.U B.locs B.cells B.slots ∧ PostX ⟨T.setVm vm₁, locs, cells, slots⟩ argsL.toArray q B ∧
      Steps p.tables e below (T.setTop g) ((B.U.setTop { g with stack := rest }).pushFrame (.throwing q))) := by
  obtain ⟨mk, hnamed⟩ := Cond.code_named hcode
  obtain ⟨methM, cM, hmethM, -, -, -, -, -, -, hsigM⟩ := Cond.code_spec hnamed hcode
  have hstatic : methM.isStatic = true := Cond.static_spec hnamed hmethM hstat
  obtain ⟨kP, hkP, -⟩ := className_of_methodNamed hnamed
  have hinitP : kP.init = .initialized := Cond.initialized_spec (findClass_of_methodNamed hnamed) hkP hinit
  obtain ⟨vm₁, X₁, hstep₁⟩ := X.invokestatic hexec hown hlink hnamed hmethM hstatic hkP hinitP hy (g := g) hg (argsL := argsL) (rest := rest) (hlen _ hsigM) hstack hdg
  rcases hK m meth c ⟨T.setVm vm₁, locs, cells, slots⟩ { g with stack := rest } (.invokestatic index) mk argsL.toArray X₁ hg hsize hdg hW (X₁.named hnamed) (hpre vm₁ X₁.warmed) with ⟨v, B, X', hpost, hsteps⟩ | ⟨q, B, X', hpost, hsteps⟩
  · exact Or.inl ⟨v, vm₁, B, X₁.warmed, X', hpost, fun target h => hstep₁ _ fun acts => by rw [doInvoke_state]; exact hsteps.trans h⟩
  · exact Or.inr ⟨q, vm₁, B, X₁.warmed, X', hpost, hstep₁ _ fun acts => by rw [doInvoke_state]; exact hsteps⟩
end Calls
theorem vx_cls {s : State} {T : State} {vm₁ : Vm} {E : String} {k : ClassId} (hW : s.WarmedH vm₁) (h : (T.setVm vm₁).vm.findClass E = some k) : s.vm.findClass E = some k := by
  have h1 : vm₁.findClass E = some k := h
  rw [hW.alike.findClass] at h1
  exact h1
/-- the method's frame g, with q thrown over it -/
def vx_W (p : Program) (l : Launch) (e : Env) (R : Room) (s : State) (m : MethodId) (args : Array Value) (below : List Frame) (meth : Method) (c : Code) (H : Heap) (locs : List Loc) (cells slots : Nat) (Q : State → Prop) (g : JFrame) (q : Addr) : Prop :=
  ∀ T : State, T.heap = H → Stand p l e R s m args below meth c T locs cells slots → ∃ t, Steps p.tables e below ((T.setTop g).pushFrame (.throwing q)) t ∧ Q t
def vx_Run (p : Program) (l : Launch) (e : Env) (R : Room) (s : State) (m : MethodId) (args : Array Value) (below : List Frame) (meth : Method) (c : Code) (H : Heap) (locs : List Loc) (cells slots mc ms : Nat) (g : JFrame) (rest : List Value) (Qa : State → Outcome → State → Prop) (XC : String → State → State → Prop) (free : Addr → Prop) : Prop :=
  ∀ T : State, T.heap = H → Stand p l e R s m args below meth c T locs cells slots →
    (∃ (v : Option Value) (st₀ t T' : State) (L : List Loc), st₀.heap = H ∧ Stand p l e R s m args below meth c T' (locs ++ L) (cells + mc) (slots + ms) ∧ (∀ q ∈ L, free q.base) ∧ T'.heap = t.heap ∧ T'.vm = t.vm ∧ Qa st₀ (.returned v) t ∧
      Goes p e below T g T' { g with pc := g.pc + 3, stack := v.toList ++ rest }) ∨
    (∃ (q : Addr) (st₀ t T' : State) (L : List Loc) (E : String) (ce : Cell), st₀.heap = H ∧ Stand p l e R s m args below meth c T' (locs ++ L) (cells + mc) (slots + ms) ∧ (∀ z ∈ L, free z.base) ∧ T'.heap = t.heap ∧ T'.vm = t.vm ∧ XC E st₀ t ∧ t.heap[q]? = some ce ∧ ce.vm = .none ∧ s.vm.findClass E = some ce.cls ∧
      Steps p.tables e below (T.setTop g) ((T'.setTop { g with stack := rest }).pushFrame (.throwing q)))
def vx_X {S : Type} (px : S → Prop) (B : String → S → State → Prop) (A : Nat → Prop) : String → State → State → Prop := fun E st t => ∃ u : S, px u ∧ B E u t ∧ va_F A st t
section Runs
variable {p : Program} {l : Launch} {e : Env} {R : Room} {s : State} {m : MethodId} {args : Array Value} {below : List Frame} {meth : Method} {c : Code} {H : Heap} {locs : List Loc} {cells slots : Nat}
variable {y : MethodName} {bytes cc : ByteArray} {maxL nL mc ms n index : Nat} {ret : Option FieldType} {ws : List Cond} {rm : Room} {Pc : Array Value → State → Prop} {Qc : Array Value → State → Outcome → State → Prop} {XC : String → State → State → Prop} {free : Addr → Prop} {Ts : List Cond} {own C : String} {b : Addr} {As rest : List Value} {g : JFrame}
theorem vx_callBack (cb : CallB R s args own index y bytes maxL ret ws rm mc ms n) (hM : vx_Met l y ws rm Pc Qc XC mc ms free) (hbl : FrameBlind Pc) : vx_Back l R p e below s args y 3 8 (PreOf R mc ms Pc) (PostOf Qc mc ms free) (vx_Post XC mc ms free) := by
  obtain ⟨hrc, hrs, hfr, hlo, hws, hcw, -, hini, -⟩ := cb
  exact vx_back (bytes := bytes) (maxL := maxL) (ret := ret) hM hbl hrc hrs hfr hlo hws hcw (fun a' U hW => word_at hW (Or.inl (by first | rfl | simp [Cond.onTables, Cond.keeps, Cond.steady])) hini)
theorem vx_runV (S : CallFix p m c cc nL s args Ts own) (hM : vx_Met l y ws rm Pc Qc XC mc ms free) (cw : CallW R s args own C index y bytes maxL ret ws rm mc ms n) (hp : PreV s H C b Pc As)
    (hg : g.method = m) (hn : As.length = n) (hsize : g.locals.size = nL) (hstack : g.stack = As.reverse ++ .ref b :: rest) (hW : 2 * g.monitorRoom + (rest.map fun v => v.category).sum ≤ 8) (hdg : decode cc g.pc = .ok (.invokevirtual index, 3)) (hf : cells + mc ≤ R.cells ∧ slots + ms ≤ R.slots) :
    vx_Run p l e R s m args below meth c H locs cells slots mc ms g rest (Qc (Value.ref b :: As).toArray) XC free := by
  have hK : vx_Back l R p e below s args y 3 8 (PreOf R mc ms Pc) (PostOf Qc mc ms free) (vx_Post XC mc ms free) := vx_callBack cw.1 hM hp.1
  obtain ⟨⟨-, -, -, -, -, -, hcode, -, hy, hlen, hl⟩, hin, hse⟩ := cw
  obtain ⟨hx, hb, hml, ho, -⟩ := S
  obtain ⟨-, ⟨cellB, hcB, hoB, hclB⟩, hPc⟩ := hp
  intro T hT X
  rcases vx_callV X hx (C := C) (bytes := bytes) (maxL := maxL) (ret := ret) ho hl hin hse hcode hy hK (by rw [hT]; exact hcB) hoB hclB hg (hsize.trans hml.symm) (argsL := As) (rest := rest) (fun sig h => hn.trans (hlen sig h)) hstack hW (by rw [hb]; exact hdg)
    (fun vm₁ hW₁ => ⟨hf.1, hf.2, hPc (T.setVm vm₁) hT hW₁⟩) with ⟨v, vm₁, ⟨U', l2, c2, s2⟩, hW₁, X', ⟨g', mk, t, L, e1, e2, hq, h1, hL, h2, h3⟩, st⟩ | ⟨q, vm₁, ⟨U', l2, c2, s2⟩, hW₁, X', ⟨g', mk, t, L, E, ce, e1, e2, hq, hce, hcv, hcl, h1, hL, h2, h3⟩, st⟩
  · dsimp only [Pt.U, Pt.locs, Pt.cells, Pt.slots] at X' e1 e2 h1 h2 h3 st
    subst h1; subst h2; subst h3
    exact Or.inl ⟨v, (T.setVm vm₁).calling g' mk (Value.ref b :: As).toArray, t, U', L, hT, X', hL, e1, e2, hq, st⟩
  · dsimp only [Pt.U, Pt.locs, Pt.cells, Pt.slots] at X' e1 e2 h1 h2 h3 st hcl
    subst h1; subst h2; subst h3
    exact Or.inr ⟨q, (T.setVm vm₁).calling g' mk (Value.ref b :: As).toArray, t, U', L, E, ce, hT, X', hL, e1, e2, hq, hce, hcv, vx_cls hW₁ hcl, st⟩
theorem vx_runS (S : CallFix p m c cc nL s args Ts own) (hM : vx_Met l y ws rm Pc Qc XC mc ms free) (cw : CallB R s args own index y bytes maxL ret ws rm mc ms n ∧ (Cond.static y).before args s = true) (hp : PreS s H Pc As)
    (hg : g.method = m) (hn : As.length = n) (hsize : g.locals.size = nL) (hstack : g.stack = As.reverse ++ rest) (hW : 2 * g.monitorRoom + (rest.map fun v => v.category).sum ≤ 8) (hdg : decode cc g.pc = .ok (.invokestatic index, 3)) (hf : cells + mc ≤ R.cells ∧ slots + ms ≤ R.slots) :
    vx_Run p l e R s m args below meth c H locs cells slots mc ms g rest (Qc As.toArray) XC free := by
  have hK : vx_Back l R p e below s args y 3 8 (PreOf R mc ms Pc) (PostOf Qc mc ms free) (vx_Post XC mc ms free) := vx_callBack cw.1 hM hp.1
  obtain ⟨⟨-, -, -, -, -, -, hcode, hini, hy, hlen, hl⟩, hstt⟩ := cw
  obtain ⟨hx, hb, hml, ho, -⟩ := S
  intro T hT X
  rcases vx_callS X hx (bytes := bytes) (maxL := maxL) (ret := ret) ho hl hstt hini hcode hy hK hg (hsize.trans hml.symm) (argsL := As) (rest := rest) (fun sig h => hn.trans (hlen sig h)) hstack hW (by rw [hb]; exact hdg)
    (fun vm₁ hW₁ => ⟨hf.1, hf.2, hp.2 (T.setVm vm₁) hT hW₁⟩) with ⟨v, vm₁, ⟨U', l2, c2, s2⟩, hW₁, X', ⟨g', mk, t, L, e1, e2, hq, h1, hL, h2, h3⟩, st⟩ | ⟨q, vm₁, ⟨U', l2, c2, s2⟩, hW₁, X', ⟨g', mk, t, L, E, ce, e1, e2, hq, hce, hcv, hcl, h1, hL, h2, h3⟩, st⟩
  · dsimp only [Pt.U, Pt.locs, Pt.cells, Pt.slots] at X' e1 e2 h1 h2 h3 st
    subst h1; subst h2; subst h3
    exact Or.inl ⟨v, (T.setVm vm₁).calling g' mk As.toArray, t, U', L, hT, X', hL, e1, e2, hq, st⟩
  · dsimp only [Pt.U, Pt.locs, Pt.cells, Pt.slots] at X' e1 e2 h1 h2 h3 st hcl
    subst h1; subst h2; subst h3
    exact Or.inr ⟨q, (T.setVm vm₁).calling g' mk As.toArray, t, U', L, E, ce, hT, X', hL, e1, e2, hq, hce, hcv, vx_cls hW₁ hcl, st⟩
end Runs
section Rows
variable {p : Program} {l : Launch} {e : Env} {R : Room} {s : State} {m : MethodId} {args : Array Value} {below : List Frame} {meth : Method} {c : Code} {H : Heap} {locs : List Loc} {cells slots : Nat} {Q : State → Prop}
variable {mc ms : Nat} {free : Addr → Prop} {A0 A1 : Nat → Prop} {H0 : Heap} {a : Array Value} {pc : Nat} {ls : Array Slot} {st0 rest : List Value}
theorem vx_keep {st₀ t T' : State} {L : List Loc} (h0 : st₀.heap = H) (e1 : T'.heap = t.heap) (hS : va_S A0 H0 H locs) (hA : ∀ q, q < H.size → A1 q → A0 q) (hf : ∀ q, free q → A0 q) (hL : ∀ q ∈ L, free q.base) (hF : va_F A1 st₀ t) :
    H.size ≤ T'.heap.size ∧ (∀ q : Nat, q < H.size → ¬ A1 q → T'.heap[q]? = H[q]?) ∧ va_S A0 H0 T'.heap (locs ++ L) := by
  obtain ⟨hz, hk⟩ := hF
  rw [h0] at hz hk
  exact ⟨by rw [e1]; exact hz, fun q h1 h2 => by rw [e1]; exact hk q h1 h2,
    ⟨Nat.le_trans hS.1 (by rw [e1]; exact hz), fun q h1 h2 => by rw [e1, hk q (Nat.lt_of_lt_of_le h1 hS.1) (fun z => h2 (hA q (Nat.lt_of_lt_of_le h1 hS.1) z))]; exact hS.2.1 q h1 h2, fun q hq => by
      rcases List.mem_append.mp hq with h | h
      · exact hS.2.2 q h
      · exact hf _ (hL q h)⟩⟩
theorem vx_calli {S SX : Type} {post : Int32 → S → Prop} {px : SX → Prop} {B : S → State → Prop} {BX : String → SX → State → Prop} {AX : Nat → Prop} (hr : vx_Run p l e R s m args below meth c H locs cells slots mc ms (F0 m pc ls st0) rest (va_Qi post B A1 a) (vx_X px BX AX) free) (hS : va_S A0 H0 H locs) (hA : ∀ q, q < H.size → A1 q → A0 q) (hf : ∀ q, free q → A0 q) (hAX : ∀ q, q < H.size → AX q → A0 q)
    (kx : ∀ (E : String) (ce : Cell) (q9 : Addr) (u : SX) (t : State) (H1 : Heap) (locs1 : List Loc), t.heap = H1 → s.vm.Alike t.vm → px u → BX E u t → H.size ≤ H1.size → (∀ q : Nat, q < H.size → ¬ AX q → H1[q]? = H[q]?) → va_S A0 H0 H1 locs1 → H1[q9]? = some ce → ce.vm = .none → s.vm.findClass E = some ce.cls → vx_W p l e R s m args below meth c H1 locs1 (cells + mc) (slots + ms) Q (F0 m pc ls rest) q9)
    (kk : ∀ (r : Int32) (u : S) (t : State) (H1 : Heap) (locs1 : List Loc), t.heap = H1 → s.vm.Alike t.vm → post r u → B u t → H.size ≤ H1.size → (∀ q : Nat, q < H.size → ¬ A1 q → H1[q]? = H[q]?) → va_S A0 H0 H1 locs1 → W p l e R s m args below meth c H1 locs1 (cells + mc) (slots + ms) Q (F0 m (pc + 3) ls (.int r :: rest))) : W p l e R s m args below meth c H locs cells slots Q (F0 m pc ls st0) := by
  intro T hT X
  rcases hr T hT X with ⟨v, st₀, t, T', L, h0, X', hL, e1, e2, ⟨⟨r, u, hv, hp, hb⟩, hF⟩, st⟩ | ⟨q, st₀, t, T', L, E, ce, h0, X', hL, e1, e2, ⟨u, hp, hb, hF⟩, hce, hcv, hcl, st⟩
  · cases hv
    obtain ⟨k1, k2, k3⟩ := vx_keep h0 e1 hS hA hf hL hF
    obtain ⟨t2, a1, b1⟩ := kk r u t T'.heap (locs ++ L) e1.symm (by rw [← e2]; exact X'.warmed.alike) hp hb k1 k2 k3 T' rfl X'
    exact ⟨t2, st t2 a1, b1⟩
  · obtain ⟨k1, k2, k3⟩ := vx_keep h0 e1 hS hAX hf hL hF
    obtain ⟨t2, a1, b1⟩ := kx E ce q u t T'.heap (locs ++ L) e1.symm (by rw [← e2]; exact X'.warmed.alike) hp hb k1 k2 k3 (by rw [e1]; exact hce) hcv hcl T' rfl X'
    exact ⟨t2, st.trans a1, b1⟩
theorem vx_calll {S SX : Type} {post : Int64 → S → Prop} {px : SX → Prop} {B : S → State → Prop} {BX : String → SX → State → Prop} {AX : Nat → Prop} (hr : vx_Run p l e R s m args below meth c H locs cells slots mc ms (F0 m pc ls st0) rest (va_Ql post B A1 a) (vx_X px BX AX) free) (hS : va_S A0 H0 H locs) (hA : ∀ q, q < H.size → A1 q → A0 q) (hf : ∀ q, free q → A0 q) (hAX : ∀ q, q < H.size → AX q → A0 q)
    (kx : ∀ (E : String) (ce : Cell) (q9 : Addr) (u : SX) (t : State) (H1 : Heap) (locs1 : List Loc), t.heap = H1 → s.vm.Alike t.vm → px u → BX E u t → H.size ≤ H1.size → (∀ q : Nat, q < H.size → ¬ AX q → H1[q]? = H[q]?) → va_S A0 H0 H1 locs1 → H1[q9]? = some ce → ce.vm = .none → s.vm.findClass E = some ce.cls → vx_W p l e R s m args below meth c H1 locs1 (cells + mc) (slots + ms) Q (F0 m pc ls rest) q9)
    (kk : ∀ (r : Int64) (u : S) (t : State) (H1 : Heap) (locs1 : List Loc), t.heap = H1 → s.vm.Alike t.vm → post r u → B u t → H.size ≤ H1.size → (∀ q : Nat, q < H.size → ¬ A1 q → H1[q]? = H[q]?) → va_S A0 H0 H1 locs1 → W p l e R s m args below meth c H1 locs1 (cells + mc) (slots + ms) Q (F0 m (pc + 3) ls (.long r :: rest))) : W p l e R s m args below meth c H locs cells slots Q (F0 m pc ls st0) := by
  intro T hT X
  rcases hr T hT X with ⟨v, st₀, t, T', L, h0, X', hL, e1, e2, ⟨⟨r, u, hv, hp, hb⟩, hF⟩, st⟩ | ⟨q, st₀, t, T', L, E, ce, h0, X', hL, e1, e2, ⟨u, hp, hb, hF⟩, hce, hcv, hcl, st⟩
  · cases hv
    obtain ⟨k1, k2, k3⟩ := vx_keep h0 e1 hS hA hf hL hF
    obtain ⟨t2, a1, b1⟩ := kk r u t T'.heap (locs ++ L) e1.symm (by rw [← e2]; exact X'.warmed.alike) hp hb k1 k2 k3 T' rfl X'
    exact ⟨t2, st t2 a1, b1⟩
  · obtain ⟨k1, k2, k3⟩ := vx_keep h0 e1 hS hAX hf hL hF
    obtain ⟨t2, a1, b1⟩ := kx E ce q u t T'.heap (locs ++ L) e1.symm (by rw [← e2]; exact X'.warmed.alike) hp hb k1 k2 k3 (by rw [e1]; exact hce) hcv hcl T' rfl X'
    exact ⟨t2, st.trans a1, b1⟩
theorem vx_callf {S SX : Type} {post : UInt32 → S → Prop} {px : SX → Prop} {B : S → State → Prop} {BX : String → SX → State → Prop} {AX : Nat → Prop} (hr : vx_Run p l e R s m args below meth c H locs cells slots mc ms (F0 m pc ls st0) rest (va_Qf post B A1 a) (vx_X px BX AX) free) (hS : va_S A0 H0 H locs) (hA : ∀ q, q < H.size → A1 q → A0 q) (hf : ∀ q, free q → A0 q) (hAX : ∀ q, q < H.size → AX q → A0 q)
    (kx : ∀ (E : String) (ce : Cell) (q9 : Addr) (u : SX) (t : State) (H1 : Heap) (locs1 : List Loc), t.heap = H1 → s.vm.Alike t.vm → px u → BX E u t → H.size ≤ H1.size → (∀ q : Nat, q < H.size → ¬ AX q → H1[q]? = H[q]?) → va_S A0 H0 H1 locs1 → H1[q9]? = some ce → ce.vm = .none → s.vm.findClass E = some ce.cls → vx_W p l e R s m args below meth c H1 locs1 (cells + mc) (slots + ms) Q (F0 m pc ls rest) q9)
    (kk : ∀ (r : UInt32) (u : S) (t : State) (H1 : Heap) (locs1 : List Loc), t.heap = H1 → s.vm.Alike t.vm → post r u → B u t → H.size ≤ H1.size → (∀ q : Nat, q < H.size → ¬ A1 q → H1[q]? = H[q]?) → va_S A0 H0 H1 locs1 → W p l e R s m args below meth c H1 locs1 (cells + mc) (slots + ms) Q (F0 m (pc + 3) ls (.float r :: rest))) : W p l e R s m args below meth c H locs cells slots Q (F0 m pc ls st0) := by
  intro T hT X
  rcases hr T hT X with ⟨v, st₀, t, T', L, h0, X', hL, e1, e2, ⟨⟨r, u, hv, hp, hb⟩, hF⟩, st⟩ | ⟨q, st₀, t, T', L, E, ce, h0, X', hL, e1, e2, ⟨u, hp, hb, hF⟩, hce, hcv, hcl, st⟩
  · cases hv
    obtain ⟨k1, k2, k3⟩ := vx_keep h0 e1 hS hA hf hL hF
    obtain ⟨t2, a1, b1⟩ := kk r u t T'.heap (locs ++ L) e1.symm (by rw [← e2]; exact X'.warmed.alike) hp hb k1 k2 k3 T' rfl X'
    exact ⟨t2, st t2 a1, b1⟩
  · obtain ⟨k1, k2, k3⟩ := vx_keep h0 e1 hS hAX hf hL hF
    obtain ⟨t2, a1, b1⟩ := kx E ce q u t T'.heap (locs ++ L) e1.symm (by rw [← e2]; exact X'.warmed.alike) hp hb k1 k2 k3 (by rw [e1]; exact hce) hcv hcl T' rfl X'
    exact ⟨t2, st.trans a1, b1⟩
theorem vx_calld {S SX : Type} {post : UInt64 → S → Prop} {px : SX → Prop} {B : S → State → Prop} {BX : String → SX → State → Prop} {AX : Nat → Prop} (hr : vx_Run p l e R s m args below meth c H locs cells slots mc ms (F0 m pc ls st0) rest (va_Qd post B A1 a) (vx_X px BX AX) free) (hS : va_S A0 H0 H locs) (hA : ∀ q, q < H.size → A1 q → A0 q) (hf : ∀ q, free q → A0 q) (hAX : ∀ q, q < H.size → AX q → A0 q)
    (kx : ∀ (E : String) (ce : Cell) (q9 : Addr) (u : SX) (t : State) (H1 : Heap) (locs1 : List Loc), t.heap = H1 → s.vm.Alike t.vm → px u → BX E u t → H.size ≤ H1.size → (∀ q : Nat, q < H.size → ¬ AX q → H1[q]? = H[q]?) → va_S A0 H0 H1 locs1 → H1[q9]? = some ce → ce.vm = .none → s.vm.findClass E = some ce.cls → vx_W p l e R s m args below meth c H1 locs1 (cells + mc) (slots + ms) Q (F0 m pc ls rest) q9)
    (kk : ∀ (r : UInt64) (u : S) (t : State) (H1 : Heap) (locs1 : List Loc), t.heap = H1 → s.vm.Alike t.vm → post r u → B u t → H.size ≤ H1.size → (∀ q : Nat, q < H.size → ¬ A1 q → H1[q]? = H[q]?) → va_S A0 H0 H1 locs1 → W p l e R s m args below meth c H1 locs1 (cells + mc) (slots + ms) Q (F0 m (pc + 3) ls (.double r :: rest))) : W p l e R s m args below meth c H locs cells slots Q (F0 m pc ls st0) := by
  intro T hT X
  rcases hr T hT X with ⟨v, st₀, t, T', L, h0, X', hL, e1, e2, ⟨⟨r, u, hv, hp, hb⟩, hF⟩, st⟩ | ⟨q, st₀, t, T', L, E, ce, h0, X', hL, e1, e2, ⟨u, hp, hb, hF⟩, hce, hcv, hcl, st⟩
  · cases hv
    obtain ⟨k1, k2, k3⟩ := vx_keep h0 e1 hS hA hf hL hF
    obtain ⟨t2, a1, b1⟩ := kk r u t T'.heap (locs ++ L) e1.symm (by rw [← e2]; exact X'.warmed.alike) hp hb k1 k2 k3 T' rfl X'
    exact ⟨t2, st t2 a1, b1⟩
  · obtain ⟨k1, k2, k3⟩ := vx_keep h0 e1 hS hAX hf hL hF
    obtain ⟨t2, a1, b1⟩ := kx E ce q u t T'.heap (locs ++ L) e1.symm (by rw [← e2]; exact X'.warmed.alike) hp hb k1 k2 k3 (by rw [e1]; exact hce) hcv hcl T' rfl X'
    exact ⟨t2, st.trans a1, b1⟩
theorem vx_callv {S SX : Type} {post : S → Prop} {px : SX → Prop} {B : S → State → Prop} {BX : String → SX → State → Prop} {AX : Nat → Prop} (hr : vx_Run p l e R s m args below meth c H locs cells slots mc ms (F0 m pc ls st0) rest (va_Qv post B A1 a) (vx_X px BX AX) free) (hS : va_S A0 H0 H locs) (hA : ∀ q, q < H.size → A1 q → A0 q) (hf : ∀ q, free q → A0 q) (hAX : ∀ q, q < H.size → AX q → A0 q)
    (kx : ∀ (E : String) (ce : Cell) (q9 : Addr) (u : SX) (t : State) (H1 : Heap) (locs1 : List Loc), t.heap = H1 → s.vm.Alike t.vm → px u → BX E u t → H.size ≤ H1.size → (∀ q : Nat, q < H.size → ¬ AX q → H1[q]? = H[q]?) → va_S A0 H0 H1 locs1 → H1[q9]? = some ce → ce.vm = .none → s.vm.findClass E = some ce.cls → vx_W p l e R s m args below meth c H1 locs1 (cells + mc) (slots + ms) Q (F0 m pc ls rest) q9)
    (kk : ∀ (u : S) (t : State) (H1 : Heap) (locs1 : List Loc), t.heap = H1 → s.vm.Alike t.vm → post u → B u t → H.size ≤ H1.size → (∀ q : Nat, q < H.size → ¬ A1 q → H1[q]? = H[q]?) → va_S A0 H0 H1 locs1 → W p l e R s m args below meth c H1 locs1 (cells + mc) (slots + ms) Q (F0 m (pc + 3) ls (rest))) : W p l e R s m args below meth c H locs cells slots Q (F0 m pc ls st0) := by
  intro T hT X
  rcases hr T hT X with ⟨v, st₀, t, T', L, h0, X', hL, e1, e2, ⟨⟨u, hv, hp, hb⟩, hF⟩, st⟩ | ⟨q, st₀, t, T', L, E, ce, h0, X', hL, e1, e2, ⟨u, hp, hb, hF⟩, hce, hcv, hcl, st⟩
  · cases hv
    obtain ⟨k1, k2, k3⟩ := vx_keep h0 e1 hS hA hf hL hF
    obtain ⟨t2, a1, b1⟩ := kk u t T'.heap (locs ++ L) e1.symm (by rw [← e2]; exact X'.warmed.alike) hp hb k1 k2 k3 T' rfl X'
    exact ⟨t2, st t2 a1, b1⟩
  · obtain ⟨k1, k2, k3⟩ := vx_keep h0 e1 hS hAX hf hL hF
    obtain ⟨t2, a1, b1⟩ := kx E ce q u t T'.heap (locs ++ L) e1.symm (by rw [← e2]; exact X'.warmed.alike) hp hb k1 k2 k3 (by rw [e1]; exact hce) hcv hcl T' rfl X'
    exact ⟨t2, st.trans a1, b1⟩
end Rows
section Ends
variable {p : Program} {l : Launch} {e : Env} {R : Room} {s : State} {m : MethodId} {args : Array Value} {below : List Frame} {meth : Method} {c : Code} {H : Heap} {locs : List Loc} {cells slots : Nat} {Q : State → Prop}
variable {mc ms : Nat} {free : Addr → Prop} {A0 A1 : Nat → Prop} {H0 : Heap} {a : Array Value} {ls : Array Slot} {st0 rest : List Value}
variable {Qc : Array Value → State → Outcome → State → Prop} {XC : String → State → State → Prop}
/-- what a body that may throw owes at its end -/
def vx_MQ (below : List Frame) (Qc : Array Value → State → Outcome → State → Prop) (XC : String → State → State → Prop) (a : Array Value) (s : State) (mc ms : Nat) (free : Addr → Prop) : State → Prop := fun t =>
  ∃ o, t.status = .running ∧ Ended t below o ∧ vx_Q Qc XC mc ms free a s o t
theorem vx_ret {g : JFrame} {mc ms : Nat} (k : W p l e R s m args below meth c H locs cells slots (MQ below Qc args s mc ms free) g) : W p l e R s m args below meth c H locs cells slots (vx_MQ below Qc XC args s mc ms free) g := by
  intro T hT X
  obtain ⟨t, a1, o, b1, b2, b3, b4⟩ := k T hT X
  exact ⟨t, a1, o, b1, b2, Or.inl ⟨b3, b4⟩⟩
/-- not caught here: it goes on to the caller -/
theorem vx_widen {g : JFrame} {q : Addr} {k n : Nat} (h1 : cells ≤ k) (h2 : slots ≤ n) (kk : vx_W p l e R s m args below meth c H locs k n Q g q) : vx_W p l e R s m args below meth c H locs cells slots Q g q := fun T hT X => kk T hT (stand_widen X h1 h2)
theorem vx_out {pc : Nat} {E : String} {ce : Cell} {q : Addr} {mc ms : Nat} (hout : ∀ x ∈ c.exceptionTable.toList, covers x pc = false) (hlocks : meth.locks = false) (hcell : H[q]? = some ce) (hv : ce.vm = .none) (hcl : s.vm.findClass E = some ce.cls)
    (hx : ∀ t : State, t.heap = H → s.vm.Alike t.vm → XC E s t) (hf : ∀ z ∈ locs, free z.base) (hc : cells ≤ mc) (hs : slots ≤ ms) :
    vx_W p l e R s m args below meth c H locs cells slots (vx_MQ below Qc XC args s mc ms free) (F0 m pc ls rest) q := by
  intro T hT X
  obtain ⟨st1, hrun, hend, hW, hsm⟩ := X.leaveThrown q (g := F0 m pc ls rest) rfl rfl rfl hout hlocks
  have hcell9 : (T.setFrames (.throwing q :: below)).heap[q]? = some ce := by
    show T.heap[q]? = some ce
    rw [hT]; exact hcell
  exact ⟨_, st1, .threw q, hrun, hend, Or.inr ⟨q, rfl, E, ce, locs, hx _ hT hW.alike, hcell9, hv, hcl, hW, hsm.mono hc hs, hf⟩⟩
theorem vx_frame {U : State} {k n : Nat} (h : s.sameButNew ({ U with vm := s.vm } : State) locs k n) : s.heap.size ≤ U.heap.size ∧ ∀ q : Nat, q < s.heap.size → (∀ z ∈ locs, z.base ≠ q) → U.heap[q]? = s.heap[q]? := by
  obtain ⟨-, h2, -, -, -, h6⟩ := h
  refine ⟨h2, fun q hq hz => ?_⟩
  obtain ⟨c9, e1, e2, e3, e4⟩ := h6 q _ (Array.getElem?_eq_getElem hq)
  have hs : c9.slots = (s.heap[q]).slots := Array.ext_getElem? fun i => e4 i fun hm => hz _ hm rfl
  have h9 : c9 = s.heap[q] := by
    rw [hs] at e2
    exact e2
  have e5 : U.heap[q]? = some c9 := e1
  rw [e5, h9, Array.getElem?_eq_getElem hq]
/-- the words of a throw but the four that speak of the heap -/
def vx_no (w : Cond) : Bool := decide (w ≠ .isRef (.static Bundle.tN "UNASSIGNED_STACK" Bundle.steD)) && decide (w ≠ .isRef (.static Bundle.tN "SUPPRESSED_SENTINEL" Bundle.listD)) && decide (w ≠ .laysStatic Bundle.tN "UNASSIGNED_STACK" Bundle.steD) && decide (w ≠ .laysStatic Bundle.tN "SUPPRESSED_SENTINEL" Bundle.listD)
def vx_at0 (own : String) (ic : Nat) (X : String) (names : List String) : List Cond := (Bundle.ownAtoms0 own ic X names).filter vx_no
def vx_atS (own : String) (ic : Nat) (X : String) (names : List String) : List Cond := (Bundle.ownAtoms own ic X names).filter vx_no
/-- a word that the tables alone decide, or a good one -/
def vx_ot (w : Cond) : Bool := w.onTables || goodWord w
theorem vx_ot_at {args a' : Array Value} {s U : State} {w : Cond} (hW : s.WarmedH U.vm) (hvm : s.vm = U.vm) (hg : vx_ot w = true) (h : w.before args s = true) : w.before a' U = true := by
  simp only [vx_ot, Bool.or_eq_true] at hg
  rcases hg with hg | hg
  · exact va_tabs hg hvm h
  · exact word_at hW (good_of_word hg) h
/-- a list's words: the good ones out of the method's own list, the others by premises of their own -/
theorem vx_hat {args : Array Value} {s : State} {L B : List Cond} (h1 : ∀ w ∈ L.filter goodWord, w.before args s = true) (h2 : ∀ w ∈ L.filter (fun w => !goodWord w), w ∈ B) (h3 : ∀ w ∈ B, w.before args s = true) : ∀ w ∈ L, w.before args s = true := by
  intro w hw
  by_cases g : goodWord w = true
  · exact h1 w (List.mem_filter.mpr ⟨hw, g⟩)
  · refine h3 w (h2 w (List.mem_filter.mpr ⟨hw, ?_⟩))
    show (!goodWord w) = true
    cases hgw : goodWord w
    · rfl
    · exact absurd hgw g
theorem vx_c {args : Array Value} {s : State} {w : Cond} {B : List Cond} (h : w.before args s = true) (t : ∀ w ∈ B, w.before args s = true) : ∀ w' ∈ w :: B, w'.before args s = true := fun w' h' => (List.mem_cons.mp h').elim (fun e => by rw [e]; exact h) (t w')
theorem vx_n {args : Array Value} {s : State} : ∀ w ∈ ([] : List Cond), w.before args s = true := fun _ h => nomatch h
theorem vx_own {args : Array Value} {s : State} {L : List Cond} (h1 : ∀ w ∈ L.filter vx_no, w.before args s = true)
    (hU : (Cond.isRef (.static Bundle.tN "UNASSIGNED_STACK" Bundle.steD)).before args s = true) (hN : (Cond.isRef (.static Bundle.tN "SUPPRESSED_SENTINEL" Bundle.listD)).before args s = true)
    (lU : (Cond.laysStatic Bundle.tN "UNASSIGNED_STACK" Bundle.steD).before args s = true) (lN : (Cond.laysStatic Bundle.tN "SUPPRESSED_SENTINEL" Bundle.listD).before args s = true) : ∀ w ∈ L, w.before args s = true := by
  intro w hw
  by_cases e1 : w = .isRef (.static Bundle.tN "UNASSIGNED_STACK" Bundle.steD)
  · rw [e1]; exact hU
  · by_cases e2 : w = .isRef (.static Bundle.tN "SUPPRESSED_SENTINEL" Bundle.listD)
    · rw [e2]; exact hN
    · by_cases e3 : w = .laysStatic Bundle.tN "UNASSIGNED_STACK" Bundle.steD
      · rw [e3]; exact lU
      · by_cases e4 : w = .laysStatic Bundle.tN "SUPPRESSED_SENTINEL" Bundle.listD
        · rw [e4]; exact lN
        · exact h1 w (List.mem_filter.mpr ⟨hw, by unfold vx_no; rw [decide_eq_true e1, decide_eq_true e2, decide_eq_true e3, decide_eq_true e4]; rfl⟩)
/-- where a static field lies, its class's statics cell in H -/
def vx_L (C n d : String) (A : Nat → Prop) (U : State) (H : Heap) : Prop := ∃ (c : ClassId) (k : Class) (i : Nat) (f : Field) (a : Nat) (cell : Cell), U.vm.findClass C = some c ∧ U.fieldFound? C n d = some (c, k, i, f) ∧ f.isStatic = true ∧ k.statics = some a ∧ H[a]? = some cell ∧ cell.vm.isStatics = true ∧ cell.cls = c ∧ f.slot < cell.slots.size ∧ k.staticTypes[f.slot]? = some f.type ∧ ¬ A a
theorem vx_L.moved {C n d : String} {A : Nat → Prop} {u U : State} {H : Heap} (hvm : u.vm.Alike U.vm) (h : vx_L C n d A u H) : vx_L C n d A U H := by
  obtain ⟨c, k, i, f, a, cell, h1, h2, h3, h4, h5, h6, h7, h8, h9, h10⟩ := h
  obtain ⟨k', hi', he⟩ := State.fieldFound?_setVm hvm h2
  exact ⟨c, k', i, f, a, cell, by rw [hvm.findClass]; exact h1, hi', h3, by rw [he]; exact h4, h5, h6, h7, h8, by rw [he]; exact h9, h10⟩
theorem vx_L.kept {C n d : String} {A : Nat → Prop} {U : State} {H H1 : Heap} (h : vx_L C n d A U H) (hq : ∀ a : Nat, a < H.size → ¬ A a → H1[a]? = H[a]?) : vx_L C n d A U H1 := by
  obtain ⟨c, k, i, f, a, cell, h1, h2, h3, h4, h5, h6, h7, h8, h9, h10⟩ := h
  exact ⟨c, k, i, f, a, cell, h1, h2, h3, h4, by rw [hq a (Array.getElem?_eq_some_iff.mp h5).1 h10]; exact h5, h6, h7, h8, h9, h10⟩
theorem vx_L.narrow {C n d : String} {A B : Nat → Prop} {U : State} {H : Heap} (h : vx_L C n d A U H) (hAB : ∀ q, B q → A q) : vx_L C n d B U H := by
  obtain ⟨c, k, i, f, a, cell, h1, h2, h3, h4, h5, h6, h7, h8, h9, h10⟩ := h
  exact ⟨c, k, i, f, a, cell, h1, h2, h3, h4, h5, h6, h7, h8, h9, fun z => h10 (hAB _ z)⟩
theorem vx_L.word {C n d : String} {A : Nat → Prop} {s : State} {args : Array Value} (h : vx_L C n d A s s.heap) : (Cond.laysStatic C n d).before args s = true := by
  obtain ⟨c, k, i, f, a, cell, h1, h2, h3, h4, h5, h6, h7, h8, h9, -⟩ := h
  show (Cond.laysStatic C n d).holds args s none s [] = true
  exact Cond.laysStatic_of h1 h2 h3 h4 h5 h6 h7 h8 h9
/-- .. and what it holds: null or some reference -/
def vx_Zq (C n d : String) (A : Nat → Prop) (U : State) (H : Heap) : Prop := va_Zq C n d A U H ∧ vx_L C n d A U H
theorem vx_Zq.moved {C n d : String} {A : Nat → Prop} {u U : State} {H : Heap} (hvm : u.vm.Alike U.vm) (h : vx_Zq C n d A u H) : vx_Zq C n d A U H := ⟨va_Zq.moved hvm h.1, vx_L.moved hvm h.2⟩
theorem vx_Zq.kept {C n d : String} {A : Nat → Prop} {U : State} {H H1 : Heap} (h : vx_Zq C n d A U H) (hq : ∀ a : Nat, a < H.size → ¬ A a → H1[a]? = H[a]?) : vx_Zq C n d A U H1 := ⟨va_Zq.kept h.1 hq, vx_L.kept h.2 hq⟩
theorem vx_Zq.narrow {C n d : String} {A B : Nat → Prop} {U : State} {H : Heap} (h : vx_Zq C n d A U H) (hAB : ∀ q, B q → A q) : vx_Zq C n d B U H := ⟨va_Zq.narrow h.1 hAB, vx_L.narrow h.2 hAB⟩
theorem vx_Zqof {args : Array Value} {s : State} {C n d : String} {A : Nat → Prop} (hl : (Cond.laysStatic C n d).before args s = true) (hini : (Cond.initialized C).before args s = true) (h : (Cond.isRef (.static C n d)).before args s = true) (hA : ∀ a : Nat, a < s.heap.size → ¬ A a) : vx_Zq C n d A s s.heap := by
  refine ⟨va_Zqof hl hini h hA, ?_⟩
  obtain ⟨c, k, i, f, a, cell, h1, h2, h3, h4, h5, h6, h7, h8, h9⟩ := Cond.laysStatic_spec hl
  exact ⟨c, k, i, f, a, cell, h1, h2, h3, h4, h5, h6, h7, h8, h9, hA a (Array.getElem?_eq_some_iff.mp h5).1⟩
theorem vx_isRef {C n d : String} {v : Value} {A : Nat → Prop} {s : State} {args : Array Value} (h : va_Z C n d v A s s.heap) (hv : v.isRef = true) : (Cond.isRef (.static C n d)).before args s = true := by
  obtain ⟨cf, kf, fi, f, a, cell, h1, h2, h3, h4, h5, h6, h7, -⟩ := h
  have he : (Term.static C n d).eval args s none [] s = some v := by
    simp [Term.eval, State.fieldNamed?, h1, h2, h4, h5, h6, h7]
  simp only [Cond.before, Cond.holds, Cond.value, he]
  cases v <;> simp_all [Value.isRef]
theorem vx_isRefq {C n d : String} {A : Nat → Prop} {s : State} {args : Array Value} (h : va_Zq C n d A s s.heap) : (Cond.isRef (.static C n d)).before args s = true := by
  rcases h with h | ⟨t, h⟩
  · exact vx_isRef h rfl
  · exact vx_isRef h rfl
/-- the same frame, seen from here: as if the method were called anew in this heap -/
theorem vx_rebase {T : State} (X : Stand p l e R s m args below meth c T locs cells slots) {R' : Room} (hf : R'.frames ≤ R.frames) (hl : R'.locals ≤ R.locals) (hc : cells + R'.cells ≤ R.cells) (hs : slots + R'.slots ≤ R.slots) :
    Stand p l e R' ((T.setVm s.vm).setFrames (.invoking m args :: below)) m args below meth c T [] 0 0 := by
  have htop : (T.setVm s.vm).topJava?.isSome := X.here.top
  have hF : ((T.setVm s.vm).setFrames (.invoking m args :: below)).frames = .invoking m args :: below := State.frames_setFrames _ (State.cur_lt_of_top htop)
  obtain ⟨g₀, hg0⟩ := Option.isSome_iff_exists.mp htop
  obtain ⟨r, hr⟩ := State.topJava?_eq_some.mp hg0
  have hl9 : e.platform.stackLimits (T.setVm s.vm).me = e.platform.stackLimits s.me := X.limits
  have hb9 : (T.setVm s.vm).me.stackBytes = s.me.stackBytes := X.bytes
  refine ⟨X.admits, X.cas, X.clock, hF, ?_, X.hears, X.method, X.code, X.here, X.tail, X.warmed, ?_, ?_, ?_⟩
  · have h := X.room
    have hU : ((T.setVm s.vm).setFrames (.invoking m args :: below)).localsInUse = s.localsInUse := by
      rw [State.localsInUse_invoking hF (meth := meth) (c := c) X.method X.code, State.localsInUse_invoking X.frames X.method X.code]
    simp only [State.hasRoom, Bool.and_eq_true, decide_eq_true_eq] at h ⊢
    obtain ⟨⟨⟨⟨h1, h2, h3, h4, h5, h6⟩, h7⟩, h8⟩, h9⟩ := h
    rw [X.frames, List.length_cons] at h2 h3
    have q1 := X.heapSize
    have q2 := X.used
    simp only [hF, hU, List.length_cons, State.stackLimits_setFrames, State.stackBytes_setFrames, hl9, hb9]
    refine ⟨⟨⟨⟨by omega, by omega, by omega, by omega, by omega, h6⟩, ?_⟩, ?_⟩, X.book⟩
    · show T.heap.size + R'.cells ≤ e.platform.maxCells
      omega
    · show T.slotsUsed + R'.slots ≤ e.platform.maxSlots
      omega
  · rw [State.stackLimits_setFrames]; rfl
  · rw [State.stackBytes_setFrames]; rfl
  · refine ⟨?_, Nat.le_refl _, Nat.le_refl _, ?_, ?_, fun a c9 h9 => ⟨c9, h9, rfl, rfl, fun _ _ => rfl⟩⟩
    · obtain ⟨t, ht, -⟩ := State.frames_cons hr
      show T.setVm s.vm = { ((T.setVm s.vm).setFrames (.invoking m args :: below)).setFrames (T.setVm s.vm).frames with heap := T.heap, slotsUsed := T.slotsUsed }
      rw [State.setFrames_setFrames, State.setFrames_self ht]
      rfl
    · show T.slotsUsed = T.slotsUsed + ((T.heap.toList.drop T.heap.size).map (·.slots.size)).sum
      rw [List.drop_eq_nil_of_le (Nat.le_of_eq Array.length_toList)]
      rfl
    · show ((T.heap.toList.drop T.heap.size).map (·.slots.size)).sum ≤ 0
      rw [List.drop_eq_nil_of_le (Nat.le_of_eq Array.length_toList)]
      exact Nat.le_refl _
/-- 'throw new E()': new; dup; invokespecial; athrow -/
theorem vx_throw0 {cc : ByteArray} {pc : Nat} (hexec : p.tables.exec = Jvm.exec) (hb : c.code = cc) (hl : l.stackTraces = false) {own cls : String} {names : List String} {ik ic mc ms : Nat} {A : Nat → Prop}
    (hown : s.vm.findClass own = some m.cls) (hcls : Bundle.fit cls = true) (hnames : ∀ n ∈ names, Bundle.fit n = true)
    (hk : (Cond.classLink own ik cls).before args s = true) (hini : (Cond.initialized cls).before args s = true) (hat : ∀ w ∈ vx_at0 own ic cls names, w.before args s = true)
    (hgood : ∀ w ∈ Cond.classLink own ik cls :: Cond.initialized cls :: vx_at0 own ic cls names, vx_ot w = true)
    (hU : vx_Zq Bundle.tN "UNASSIGNED_STACK" Bundle.steD A s s.heap) (hN : vx_Zq Bundle.tN "SUPPRESSED_SENTINEL" Bundle.listD A s s.heap) (hS : va_S A s.heap H locs) (hsize : ls.size = c.maxLocals)
    (d0 : decode cc pc = .ok (.new ik, 3)) (d3 : decode cc (pc + 3) = .ok (.dup, 1)) (d4 : decode cc (pc + 4) = .ok (.invokespecial ic, 3)) (d7 : decode cc (pc + 7) = .ok (.athrow, 1))
    (hout : ∀ x ∈ c.exceptionTable.toList, covers x (pc + 7) = false)
    (hRframes : names.length + 3 < R.frames) (hRlocals : (rest.map fun v => v.category).sum + (13 * (names.length + 1) + 42) ≤ R.locals) (hRcells : cells + 1 ≤ R.cells) (hRslots : slots + 6 ≤ R.slots) (hlocks : meth.locks = false)
    (hx : ∀ t : State, s.vm.Alike t.vm → H.size ≤ t.heap.size → (∀ q : Nat, q < H.size → t.heap[q]? = H[q]?) → XC cls s t)
    (hf : ∀ z ∈ locs, free z.base) (hc : cells + 1 ≤ mc) (hs : slots + 6 ≤ ms) :
    W p l e R s m args below meth c H locs cells slots (vx_MQ below Qc XC args s mc ms free) (F0 m pc ls rest) := by
  intro T hT X
  have htr : e.platform.stackTraces = false := (show e.platform.stackTraces = l.stackTraces by rw [X.admits.platform]).trans hl
  have Y := vx_rebase X (R' := { frames := R.frames, locals := R.locals, cells := 1, slots := 6 }) (Nat.le_refl _) (Nat.le_refl _) hRcells hRslots
  obtain ⟨s', hA⟩ : ∃ z, z = (T.setVm s.vm).setFrames (.invoking m args :: below) := ⟨_, rfl⟩
  rw [← hA] at Y
  have hvm : s'.vm = s.vm := by rw [hA]; rfl
  have hhp : s'.heap = H := by rw [hA]; exact hT
  have hW0 : s.WarmedH s'.vm := by rw [hvm]; exact State.WarmedH.refl s
  have hat' : ∀ w ∈ vx_at0 own ic cls names, w.before args s' = true := fun w hw => vx_ot_at hW0 hvm.symm (hgood w (List.mem_cons_of_mem _ (List.mem_cons_of_mem _ hw))) (hat w hw)
  have hk' : (Cond.classLink own ik cls).before args s' = true := vx_ot_at hW0 hvm.symm (hgood _ List.mem_cons_self) hk
  have hini' : (Cond.initialized cls).before args s' = true := vx_ot_at hW0 hvm.symm (hgood _ (List.mem_cons_of_mem _ List.mem_cons_self)) hini
  have hU' : vx_Zq Bundle.tN "UNASSIGNED_STACK" Bundle.steD A s' s'.heap := by rw [hhp]; exact vx_Zq.moved hW0.alike (hU.kept hS.2.1)
  have hN' : vx_Zq Bundle.tN "SUPPRESSED_SENTINEL" Bundle.listD A s' s'.heap := by rw [hhp]; exact vx_Zq.moved hW0.alike (hN.kept hS.2.1)
  have h : ∀ w ∈ Bundle.ownAtoms0 own ic cls names, w.before args s' = true := vx_own hat' (vx_isRefq hU'.1) (vx_isRefq hN'.1) hU'.2.word hN'.2.word
  have hown' : s'.vm.findClass own = some m.cls := by rw [hvm]; exact hown
  have hins : (Cond.instantiable cls 6).before args s' = true := h _ (by simp [Bundle.ownAtoms0])
  obtain ⟨vm₁, cX, kX, hfX, hkX, -, -, X₁, st1⟩ := Y.newCold hexec (own := own) (C := cls) (index := ik) (n := 6) hown' hk' hins hini'
    (g := F0 m pc ls rest) rfl (by rw [hb]; exact d0) (Nat.le_refl _) (Nat.le_refl _)
  generalize hT1 : (T.setVm vm₁).pushCell { cls := cX, slots := kX.instanceTypes.map defaultValue, vm := .none } = T1 at X₁ st1
  have hcat : (Value.ref T.heap.size).category = 1 := rfl
  have hcellA : T1.heap[T.heap.size]? = some (freshCell cX kX) := by rw [← hT1]; exact State.heap_pushCell_size _ _
  have d3' : decode c.code (pc + 3) = .ok (.dup, 1) := by rw [hb]; exact d3
  obtain ⟨U, hsteps, hrun, hend, hW, hsame, ce, hce, hO⟩ := X₁.ctorThrow0 hexec htr (own := own) (cls := cls) (names := names) (ic := ic) hown' hcls hnames h (fun x hx => nomatch hx) hfX hkX hcellA (by rw [hhp, hT]; exact Nat.le_refl _)
    (g := { method := m, pc := pc + 4, locals := ls, stack := .ref T.heap.size :: .ref T.heap.size :: rest, locked := none }) rfl hsize rfl rfl (rest := rest) rfl
    (by rw [hb]; exact d4) (by rw [hb]; exact d7) hout hRframes (by simp only [List.map_cons, List.sum_cons, hcat]; omega) hlocks
  obtain ⟨f1, f2⟩ := vx_frame hsame
  rw [hhp] at f1 f2
  have hWs : s.WarmedH U.vm := State.WarmedH.trans hW0 hW
  have hcl : s.vm.findClass cls = some ce.cls := by
    have h9 := hO.cls
    rw [hvm] at h9
    exact h9
  have hall : s.sameButNew ({ U with vm := s.vm } : State) locs mc ms := by
    subst hA
    obtain ⟨e1, e2⟩ := hsame
    rw [State.setFrames_setFrames] at e1
    have h2 : (T.setVm s.vm).sameButNew ({ U with vm := s.vm } : State) [] (0 + 1) (0 + 6) := ⟨e1, e2⟩
    have h3 := X.same.trans h2
    rw [List.append_nil] at h3
    exact h3.mono hc hs
  refine ⟨U, ?_, .threw T.heap.size, hrun, hend, Or.inr ⟨T.heap.size, rfl, cls, ce, locs, hx U hWs.alike f1 (fun q hq => f2 q hq (fun z hz => nomatch hz)), hce, hO.vm, hcl, hWs, hall, hf⟩⟩
  refine st1 _ ?_
  show Steps p.tables e below (T1.setTop { method := m, pc := pc + 3, locals := ls, stack := .ref T.heap.size :: rest, locked := none }) _
  jvm_step X₁.here [X₁.here.top, hexec, d3', Value.category]
  exact hsteps
/-- 'throw new E("text")': new; dup; ldc; invokespecial; athrow -/
theorem vx_throwS {cc : ByteArray} {pc : Nat} (hexec : p.tables.exec = Jvm.exec) (hb : c.code = cc) (hl : l.stackTraces = false) {own cls text : String} {names : List String} {ik is ic mc ms sa : Nat} {A : Nat → Prop}
    (hown : s.vm.findClass own = some m.cls) (hcls : Bundle.fit cls = true) (hnames : ∀ n ∈ names, Bundle.fit n = true)
    (hk : (Cond.classLink own ik cls).before args s = true) (hini : (Cond.initialized cls).before args s = true) (hstr : vk_R own is text sa s) (hat : ∀ w ∈ vx_atS own ic cls names, w.before args s = true)
    (hgood : ∀ w ∈ Cond.classLink own ik cls :: Cond.initialized cls :: vx_atS own ic cls names, vx_ot w = true)
    (hU : vx_Zq Bundle.tN "UNASSIGNED_STACK" Bundle.steD A s s.heap) (hN : vx_Zq Bundle.tN "SUPPRESSED_SENTINEL" Bundle.listD A s s.heap) (hS : va_S A s.heap H locs) (hsize : ls.size = c.maxLocals)
    (d0 : decode cc pc = .ok (.new ik, 3)) (d3 : decode cc (pc + 3) = .ok (.dup, 1)) (d4 : decode cc (pc + 4) = .ok (.ldc is, 2)) (d6 : decode cc (pc + 6) = .ok (.invokespecial ic, 3)) (d9 : decode cc (pc + 9) = .ok (.athrow, 1))
    (hout : ∀ x ∈ c.exceptionTable.toList, covers x (pc + 9) = false)
    (hRframes : names.length + 3 < R.frames) (hRlocals : (rest.map fun v => v.category).sum + (13 * (names.length + 1) + 43) ≤ R.locals) (hRcells : cells + 1 ≤ R.cells) (hRslots : slots + 6 ≤ R.slots) (hlocks : meth.locks = false)
    (hx : ∀ t : State, s.vm.Alike t.vm → H.size ≤ t.heap.size → (∀ q : Nat, q < H.size → t.heap[q]? = H[q]?) → XC cls s t)
    (hf : ∀ z ∈ locs, free z.base) (hc : cells + 1 ≤ mc) (hs : slots + 6 ≤ ms) :
    W p l e R s m args below meth c H locs cells slots (vx_MQ below Qc XC args s mc ms free) (F0 m pc ls rest) := by
  intro T hT X
  have htr : e.platform.stackTraces = false := (show e.platform.stackTraces = l.stackTraces by rw [X.admits.platform]).trans hl
  have Y := vx_rebase X (R' := { frames := R.frames, locals := R.locals, cells := 1, slots := 6 }) (Nat.le_refl _) (Nat.le_refl _) hRcells hRslots
  obtain ⟨s', hA⟩ : ∃ z, z = (T.setVm s.vm).setFrames (.invoking m args :: below) := ⟨_, rfl⟩
  rw [← hA] at Y
  have hvm : s'.vm = s.vm := by rw [hA]; rfl
  have hhp : s'.heap = H := by rw [hA]; exact hT
  have hW0 : s.WarmedH s'.vm := by rw [hvm]; exact State.WarmedH.refl s
  have hat' : ∀ w ∈ vx_atS own ic cls names, w.before args s' = true := fun w hw => vx_ot_at hW0 hvm.symm (hgood w (List.mem_cons_of_mem _ (List.mem_cons_of_mem _ hw))) (hat w hw)
  have hk' : (Cond.classLink own ik cls).before args s' = true := vx_ot_at hW0 hvm.symm (hgood _ List.mem_cons_self) hk
  have hini' : (Cond.initialized cls).before args s' = true := vx_ot_at hW0 hvm.symm (hgood _ (List.mem_cons_of_mem _ List.mem_cons_self)) hini
  have hU' : vx_Zq Bundle.tN "UNASSIGNED_STACK" Bundle.steD A s' s'.heap := by rw [hhp]; exact vx_Zq.moved hW0.alike (hU.kept hS.2.1)
  have hN' : vx_Zq Bundle.tN "SUPPRESSED_SENTINEL" Bundle.listD A s' s'.heap := by rw [hhp]; exact vx_Zq.moved hW0.alike (hN.kept hS.2.1)
  have h : ∀ w ∈ Bundle.ownAtoms own ic cls names, w.before args s' = true := vx_own hat' (vx_isRefq hU'.1) (vx_isRefq hN'.1) hU'.2.word hN'.2.word
  have hown' : s'.vm.findClass own = some m.cls := by rw [hvm]; exact hown
  have hins : (Cond.instantiable cls 6).before args s' = true := h _ (by simp [Bundle.ownAtoms])
  obtain ⟨vm₁, cX, kX, hfX, hkX, -, -, X₁, st1⟩ := Y.newCold hexec (own := own) (C := cls) (index := ik) (n := 6) hown' hk' hins hini'
    (g := F0 m pc ls rest) rfl (by rw [hb]; exact d0) (Nat.le_refl _) (Nat.le_refl _)
  generalize hT1 : (T.setVm vm₁).pushCell { cls := cX, slots := kX.instanceTypes.map defaultValue, vm := .none } = T1 at X₁ st1
  have hcat : (Value.ref T.heap.size).category = 1 := rfl
  have hcellA : T1.heap[T.heap.size]? = some (freshCell cX kX) := by rw [← hT1]; exact State.heap_pushCell_size _ _
  have d3' : decode c.code (pc + 3) = .ok (.dup, 1) := by rw [hb]; exact d3
  have d4' : decode c.code (pc + 4) = .ok (.ldc is, 2) := by rw [hb]; exact d4
  have hstr' : vk_R own is text sa s' := vk_R.warm hW0 hstr
  obtain ⟨U, hsteps, hrun, hend, hW, hsame, ce, hce, hO⟩ := X₁.ctorThrowS hexec htr (own := own) (cls := cls) (names := names) (ic := ic) hown' hcls hnames h (fun x hx => nomatch hx) hfX hkX hcellA (by rw [hhp, hT]; exact Nat.le_refl _) (msg := .ref sa) rfl
    (g := { method := m, pc := pc + 6, locals := ls, stack := .ref sa :: .ref T.heap.size :: .ref T.heap.size :: rest, locked := none }) rfl hsize rfl rfl (rest := rest) rfl
    (by rw [hb]; exact d6) (by rw [hb]; exact d9) hout hRframes (by simp only [List.map_cons, List.sum_cons, hcat]; omega) hlocks
  obtain ⟨f1, f2⟩ := vx_frame hsame
  rw [hhp] at f1 f2
  have hWs : s.WarmedH U.vm := State.WarmedH.trans hW0 hW
  have hcl : s.vm.findClass cls = some ce.cls := by
    have h9 := hO.cls
    rw [hvm] at h9
    exact h9
  have hall : s.sameButNew ({ U with vm := s.vm } : State) locs mc ms := by
    subst hA
    obtain ⟨e1, e2⟩ := hsame
    rw [State.setFrames_setFrames] at e1
    have h2 : (T.setVm s.vm).sameButNew ({ U with vm := s.vm } : State) [] (0 + 1) (0 + 6) := ⟨e1, e2⟩
    have h3 := X.same.trans h2
    rw [List.append_nil] at h3
    exact h3.mono hc hs
  refine ⟨U, ?_, .threw T.heap.size, hrun, hend, Or.inr ⟨T.heap.size, rfl, cls, ce, locs, hx U hWs.alike f1 (fun q hq => f2 q hq (fun z hz => nomatch hz)), hce, hO.vm, hcl, hWs, hall, hf⟩⟩
  refine st1 _ ?_
  show Steps p.tables e below (T1.setTop { method := m, pc := pc + 3, locals := ls, stack := .ref T.heap.size :: rest, locked := none }) _
  jvm_step X₁.here [X₁.here.top, hexec, d3', Value.category]
  exact X₁.ldcString hexec (own := own) (text := text) (index := is) (a := sa) hown' hstr'.1 hstr'.2
    (g := { method := m, pc := pc + 4, locals := ls, stack := .ref T.heap.size :: .ref T.heap.size :: rest, locked := none }) rfl d4' _ hsteps
/-- 'throw new E("text")', the text by a wide index -/
theorem vx_throwSW {cc : ByteArray} {pc : Nat} (hexec : p.tables.exec = Jvm.exec) (hb : c.code = cc) (hl : l.stackTraces = false) {own cls text : String} {names : List String} {ik is ic mc ms sa : Nat} {A : Nat → Prop}
    (hown : s.vm.findClass own = some m.cls) (hcls : Bundle.fit cls = true) (hnames : ∀ n ∈ names, Bundle.fit n = true)
    (hk : (Cond.classLink own ik cls).before args s = true) (hini : (Cond.initialized cls).before args s = true) (hstr : vk_R own is text sa s) (hat : ∀ w ∈ vx_atS own ic cls names, w.before args s = true)
    (hgood : ∀ w ∈ Cond.classLink own ik cls :: Cond.initialized cls :: vx_atS own ic cls names, vx_ot w = true)
    (hU : vx_Zq Bundle.tN "UNASSIGNED_STACK" Bundle.steD A s s.heap) (hN : vx_Zq Bundle.tN "SUPPRESSED_SENTINEL" Bundle.listD A s s.heap) (hS : va_S A s.heap H locs) (hsize : ls.size = c.maxLocals)
    (d0 : decode cc pc = .ok (.new ik, 3)) (d3 : decode cc (pc + 3) = .ok (.dup, 1)) (d4 : decode cc (pc + 4) = .ok (.ldc_w is, 3)) (d7 : decode cc (pc + 7) = .ok (.invokespecial ic, 3)) (d10 : decode cc (pc + 10) = .ok (.athrow, 1))
    (hout : ∀ x ∈ c.exceptionTable.toList, covers x (pc + 10) = false)
    (hRframes : names.length + 3 < R.frames) (hRlocals : (rest.map fun v => v.category).sum + (13 * (names.length + 1) + 43) ≤ R.locals) (hRcells : cells + 1 ≤ R.cells) (hRslots : slots + 6 ≤ R.slots) (hlocks : meth.locks = false)
    (hx : ∀ t : State, s.vm.Alike t.vm → H.size ≤ t.heap.size → (∀ q : Nat, q < H.size → t.heap[q]? = H[q]?) → XC cls s t)
    (hf : ∀ z ∈ locs, free z.base) (hc : cells + 1 ≤ mc) (hs : slots + 6 ≤ ms) :
    W p l e R s m args below meth c H locs cells slots (vx_MQ below Qc XC args s mc ms free) (F0 m pc ls rest) := by
  intro T hT X
  have htr : e.platform.stackTraces = false := (show e.platform.stackTraces = l.stackTraces by rw [X.admits.platform]).trans hl
  have Y := vx_rebase X (R' := { frames := R.frames, locals := R.locals, cells := 1, slots := 6 }) (Nat.le_refl _) (Nat.le_refl _) hRcells hRslots
  obtain ⟨s', hA⟩ : ∃ z, z = (T.setVm s.vm).setFrames (.invoking m args :: below) := ⟨_, rfl⟩
  rw [← hA] at Y
  have hvm : s'.vm = s.vm := by rw [hA]; rfl
  have hhp : s'.heap = H := by rw [hA]; exact hT
  have hW0 : s.WarmedH s'.vm := by rw [hvm]; exact State.WarmedH.refl s
  have hat' : ∀ w ∈ vx_atS own ic cls names, w.before args s' = true := fun w hw => vx_ot_at hW0 hvm.symm (hgood w (List.mem_cons_of_mem _ (List.mem_cons_of_mem _ hw))) (hat w hw)
  have hk' : (Cond.classLink own ik cls).before args s' = true := vx_ot_at hW0 hvm.symm (hgood _ List.mem_cons_self) hk
  have hini' : (Cond.initialized cls).before args s' = true := vx_ot_at hW0 hvm.symm (hgood _ (List.mem_cons_of_mem _ List.mem_cons_self)) hini
  have hU' : vx_Zq Bundle.tN "UNASSIGNED_STACK" Bundle.steD A s' s'.heap := by rw [hhp]; exact vx_Zq.moved hW0.alike (hU.kept hS.2.1)
  have hN' : vx_Zq Bundle.tN "SUPPRESSED_SENTINEL" Bundle.listD A s' s'.heap := by rw [hhp]; exact vx_Zq.moved hW0.alike (hN.kept hS.2.1)
  have h : ∀ w ∈ Bundle.ownAtoms own ic cls names, w.before args s' = true := vx_own hat' (vx_isRefq hU'.1) (vx_isRefq hN'.1) hU'.2.word hN'.2.word
  have hown' : s'.vm.findClass own = some m.cls := by rw [hvm]; exact hown
  have hins : (Cond.instantiable cls 6).before args s' = true := h _ (by simp [Bundle.ownAtoms])
  obtain ⟨vm₁, cX, kX, hfX, hkX, -, -, X₁, st1⟩ := Y.newCold hexec (own := own) (C := cls) (index := ik) (n := 6) hown' hk' hins hini'
    (g := F0 m pc ls rest) rfl (by rw [hb]; exact d0) (Nat.le_refl _) (Nat.le_refl _)
  generalize hT1 : (T.setVm vm₁).pushCell { cls := cX, slots := kX.instanceTypes.map defaultValue, vm := .none } = T1 at X₁ st1
  have hcat : (Value.ref T.heap.size).category = 1 := rfl
  have hcellA : T1.heap[T.heap.size]? = some (freshCell cX kX) := by rw [← hT1]; exact State.heap_pushCell_size _ _
  have d3' : decode c.code (pc + 3) = .ok (.dup, 1) := by rw [hb]; exact d3
  have d4' : decode c.code (pc + 4) = .ok (.ldc_w is, 3) := by rw [hb]; exact d4
  have hstr' : vk_R own is text sa s' := vk_R.warm hW0 hstr
  obtain ⟨U, hsteps, hrun, hend, hW, hsame, ce, hce, hO⟩ := X₁.ctorThrowS hexec htr (own := own) (cls := cls) (names := names) (ic := ic) hown' hcls hnames h (fun x hx => nomatch hx) hfX hkX hcellA (by rw [hhp, hT]; exact Nat.le_refl _) (msg := .ref sa) rfl
    (g := { method := m, pc := pc + 7, locals := ls, stack := .ref sa :: .ref T.heap.size :: .ref T.heap.size :: rest, locked := none }) rfl hsize rfl rfl (rest := rest) rfl
    (by rw [hb]; exact d7) (by rw [hb]; exact d10) hout hRframes (by simp only [List.map_cons, List.sum_cons, hcat]; omega) hlocks
  obtain ⟨f1, f2⟩ := vx_frame hsame
  rw [hhp] at f1 f2
  have hWs : s.WarmedH U.vm := State.WarmedH.trans hW0 hW
  have hcl : s.vm.findClass cls = some ce.cls := by
    have h9 := hO.cls
    rw [hvm] at h9
    exact h9
  have hall : s.sameButNew ({ U with vm := s.vm } : State) locs mc ms := by
    subst hA
    obtain ⟨e1, e2⟩ := hsame
    rw [State.setFrames_setFrames] at e1
    have h2 : (T.setVm s.vm).sameButNew ({ U with vm := s.vm } : State) [] (0 + 1) (0 + 6) := ⟨e1, e2⟩
    have h3 := X.same.trans h2
    rw [List.append_nil] at h3
    exact h3.mono hc hs
  refine ⟨U, ?_, .threw T.heap.size, hrun, hend, Or.inr ⟨T.heap.size, rfl, cls, ce, locs, hx U hWs.alike f1 (fun q hq => f2 q hq (fun z hz => nomatch hz)), hce, hO.vm, hcl, hWs, hall, hf⟩⟩
  refine st1 _ ?_
  show Steps p.tables e below (T1.setTop { method := m, pc := pc + 3, locals := ls, stack := .ref T.heap.size :: rest, locked := none }) _
  jvm_step X₁.here [X₁.here.top, hexec, d3', Value.category]
  exact X₁.ldcStringW hexec (own := own) (text := text) (index := is) (a := sa) hown' hstr'.1 hstr'.2
    (g := { method := m, pc := pc + 4, locals := ls, stack := .ref T.heap.size :: .ref T.heap.size :: rest, locked := none }) rfl d4' _ hsteps
end Ends
section Bodies
variable {l : Launch}
theorem vx_ofW {y : MethodName} {ws ws' : List Cond} {rm : Room} {Pc : Array Value → State → Prop} {Qc : Array Value → State → Outcome → State → Prop} {XC : String → State → State → Prop} {mc ms : Nat} {free : Addr → Prop} {cc : ByteArray} {maxL : Nat} {ret : Option FieldType}
    (hy : plainName y.cls = true) (hw : ws = Cond.code y cc maxL ret :: ws')
    (body : ∀ p e s m args below meth c s₁, BodyLoose p l y (headSpec ws rm) cc maxL ret e s m args below meth c s₁ → c.maxLocals = maxL → (∀ x ∈ c.exceptionTable.toList, False) → Pc args s →
      W p l e (headSpec ws rm).room s m args below meth c s.heap [] 0 0 (vx_MQ below Qc XC args s mc ms free) (entryFrame m args maxL)) : vx_Met l y ws rm Pc Qc XC mc ms free := by
  refine MetFree.of_bodyS (code := cc) (maxLocals := maxL) (ret := ret) hy ?_ ?_
  · intro args s m h hn
    obtain ⟨meth, c, h1, h2, h3, h4, h5, h6, -, -⟩ := Cond.code_spec hn (atoms_spec (ws := ws) h _ (by rw [hw]; exact List.mem_cons_self))
    exact ⟨meth, c, h1, h2, h3, h4, h5, h6⟩
  · intro p e s m args below meth c s₁ B hml hP _
    have hh0 : s₁.heap = s.heap := by rw [B.state]; rfl
    have ht : ∀ x ∈ c.exceptionTable.toList, False := by
      obtain ⟨meth9, c9, h1, h2, -, -, -, -, h7, -⟩ := Cond.code_spec B.named (atoms_spec (ws := ws) B.pre _ (by rw [hw]; exact List.mem_cons_self))
      cases Option.some.inj (h1.symm.trans B.method)
      cases Option.some.inj (h2.symm.trans (Stand.of_body B).code)
      intro x hx
      rw [Array.isEmpty_iff.mp h7] at hx
      cases hx
    obtain ⟨t, a1, o, b1, b2, b3⟩ := body p e s m args below meth c s₁ B hml ht hP s₁ hh0 (Stand.of_body B)
    exact ⟨t, o, a1, b1, b2, b3⟩
/-- the table of a body with handlers -/
theorem vx_table {p : Program} {x y : MethodName} {S : Spec} {cc bytes : ByteArray} {maxL maxL' : Nat} {ret ret' : Option FieldType} {e : Env} {s s₁ : State} {m : MethodId} {args : Array Value} {below : List Frame} {meth : Method} {c : Code} {hh : List (Nat × Nat × Nat × Nat)}
    (B : BodyLoose p l y S cc maxL ret e s m args below meth c s₁) (h : (Cond.codeWith y bytes maxL' ret' hh).before args s = true) : c.exceptionTable.toList = tableOf hh := by
  obtain ⟨m9, meth9, c9, hn9, h1, h2, -, -, h6, -⟩ := Cond.codeWith_spec h
  cases Option.some.inj (hn9.symm.trans B.named)
  cases Option.some.inj (h1.symm.trans B.method)
  cases Option.some.inj (h2.symm.trans (Stand.of_body B).code)
  rw [← h6, table_eq]
end Bodies
end VXA
/-! ===== END ===== -/
/-! ===== BEGIN a static call of a method with an exception table ===== -/
section VXS
variable {p : Program} {l : Launch} {e : Env} {R : Room} {s : State} {m : MethodId} {args : Array Value} {below : List Frame} {meth : Method} {c : Code} {T : State} {H : Heap} {locs : List Loc} {cells slots : Nat}
abbrev vx_CSW (R : Room) (s : State) (args : Array Value) (own : String) (index : Nat) (y : MethodName) (bytes : ByteArray) (maxL : Nat) (ret : Option FieldType) (hh : List (Nat × Nat × Nat × Nat)) (ws : List Cond) (rm : Room) (mc ms n : Nat) : Prop :=
  (rm.cells = mc ∧ rm.slots = ms ∧ rm.frames + 1 ≤ R.frames ∧ 8 + (maxL + 11) + rm.locals ≤ R.locals ∧ (∀ w ∈ ws, ∀ (a' : Array Value) (U : State), s.WarmedH U.vm → w.before a' U = true) ∧ Cond.codeWith y bytes maxL ret hh ∈ ws) ∧
  (Cond.codeWith y bytes maxL ret hh).before args s = true ∧ (Cond.initialized y.cls).before args s = true ∧ (y.cls ≠ "java/lang/invoke/MethodHandle" ∧ y.cls ≠ "java/lang/invoke/VarHandle") ∧
  (∀ sig, parseMethodDescriptor y.desc = some sig → n = sig.parameters.length) ∧ (Cond.methodLink own index y).before args s = true ∧ (Cond.static y).before args s = true
theorem vx_cwSW {own : String} {index maxL mc ms : Nat} {y : MethodName} {bytes : ByteArray} {ret : Option FieldType} {hh : List (Nat × Nat × Nat × Nat)} {Ts ws ws' : List Cond} {rm : Room} (n : Nat) (ht : ∀ w ∈ Ts, w.before args s = true) (hT : GoodIn Ts (va_wsS own index y ws)) (hw : ws = Cond.codeWith y bytes maxL ret hh :: ws') (hrc : rm.cells = mc) (hrs : rm.slots = ms)
    (hd : y.cls ≠ "java/lang/invoke/MethodHandle" ∧ y.cls ≠ "java/lang/invoke/VarHandle" ∧ (parseMethodDescriptor y.desc).map (fun d => d.parameters.length) = some n) (hR : rm.frames + 1 ≤ R.frames ∧ 8 + (maxL + 11) + rm.locals ≤ R.locals) :
    vx_CSW R s args own index y bytes maxL ret hh ws rm mc ms n := by
  have ok : ∀ w ∈ va_wsS own index y ws, w.before args s = true := fun w h => ht w (hT w h).1
  have hG : GoodIn Ts ws := fun w h => hT w (by unfold va_wsS; exact List.mem_append_right _ h)
  have hc : Cond.codeWith y bytes maxL ret hh ∈ ws := by rw [hw]; exact List.mem_cons_self
  refine ⟨⟨hrc, hrs, hR.1, hR.2, pay_in ht hG, hc⟩, ht _ (hG _ hc).1, ok _ (by simp [va_wsS]), ⟨hd.1, hd.2.1⟩, fun sig h => ?_, ok _ (by simp [va_wsS]), ok _ (by simp [va_wsS])⟩
  have h2 := hd.2.2
  rw [h] at h2
  exact (Option.some.inj h2).symm
theorem vx_callSW (X : Stand p l e R s m args below meth c T locs cells slots) (hexec : p.tables.exec = Jvm.exec) {own : String} {index : Nat} {y : MethodName} {bytes : ByteArray} {maxL : Nat} {ret : Option FieldType} {hh : List (Nat × Nat × Nat × Nat)}
    (hown : s.vm.findClass own = some m.cls) (hlink : (Cond.methodLink own index y).before args s = true) (hstat : (Cond.static y).before args s = true) (hinit : (Cond.initialized y.cls).before args s = true)
    (hcode : (Cond.codeWith y bytes maxL ret hh).before args s = true) (hy : y.cls ≠ "java/lang/invoke/MethodHandle" ∧ y.cls ≠ "java/lang/invoke/VarHandle")
    {W9 : Nat} {Pre : Pt → Array Value → Prop} {Post : Pt → Array Value → Option Value → Pt → Prop} (hK : Back l R p e below s args y 3 W9 Pre Post)
    {g : JFrame} (hg : g.method = m) (hsize : g.locals.size = c.maxLocals) {argsL rest : List Value} (hlen : ∀ sig, parseMethodDescriptor y.desc = some sig → argsL.length = sig.parameters.length)
    (hstack : g.stack = argsL.reverse ++ rest) (hW : 2 * g.monitorRoom + (rest.map fun v => v.category).sum ≤ W9) (hdg : decode c.code g.pc = .ok (.invokestatic index, 3))
    (hpre : ∀ vm₁, s.WarmedH vm₁ → Pre ⟨T.setVm vm₁, locs, cells, slots⟩ argsL.toArray) :
    ∃ (v : Option Value) (vm₁ : Vm) (B : Pt), s.WarmedH vm₁ ∧ Stand p l e R s m args below meth c B.U B.locs B.cells B.slots ∧ Post ⟨T.setVm vm₁, locs, cells, slots⟩ argsL.toArray v B ∧
      ∀ target, Steps p.tables e below (B.U.setTop { g with pc := g.pc + 3, stack := v.toList ++ rest }) target → Steps p.tables e below (T.setTop g) target := by
  obtain ⟨mk, methM, cM, hnamed, hmethM, -, -, -, -, -, -, hsigM⟩ := Cond.codeWith_spec hcode
  have hstatic : methM.isStatic = true := Cond.static_spec hnamed hmethM hstat
  obtain ⟨kP, hkP, -⟩ := className_of_methodNamed hnamed
  have hinitP : kP.init = .initialized := Cond.initialized_spec (findClass_of_methodNamed hnamed) hkP hinit
  obtain ⟨vm₁, X₁, hstep₁⟩ := X.invokestatic hexec hown hlink hnamed hmethM hstatic hkP hinitP hy (g := g) hg (argsL := argsL) (rest := rest) (hlen _ hsigM) hstack hdg
  obtain ⟨v, B, X', hpost, hsteps⟩ := hK m meth c ⟨T.setVm vm₁, locs, cells, slots⟩ { g with stack := rest } (.invokestatic index) mk argsL.toArray X₁ hg hsize hdg hW (X₁.named hnamed) (hpre vm₁ X₁.warmed)
  exact ⟨v, vm₁, B, X₁.warmed, X', hpost, fun target h => hstep₁ _ fun acts => by rw [doInvoke_state]; exact hsteps.trans h⟩
theorem vx_runSW {y : MethodName} {bytes cc : ByteArray} {maxL nL mc ms n index : Nat} {ret : Option FieldType} {hh : List (Nat × Nat × Nat × Nat)} {ws : List Cond} {rm : Room} {Pc : Array Value → State → Prop} {Qc : Array Value → State → Outcome → State → Prop} {free : Addr → Prop} {Ts : List Cond} {own : String} {As rest : List Value} {g : JFrame}
    (S : CallFix p m c cc nL s args Ts own) (hM : Met l y ws rm Pc Qc mc ms free) (cw : vx_CSW R s args own index y bytes maxL ret hh ws rm mc ms n) (hp : PreS s H Pc As)
    (hg : g.method = m) (hn : As.length = n) (hsize : g.locals.size = nL) (hstack : g.stack = As.reverse ++ rest) (hW : 2 * g.monitorRoom + (rest.map fun v => v.category).sum ≤ 8) (hdg : decode cc g.pc = .ok (.invokestatic index, 3)) (hf : cells + mc ≤ R.cells ∧ slots + ms ≤ R.slots) :
    va_Run p l e R s m args below meth c H locs cells slots mc ms g rest (Qc As.toArray) (free) := by
  obtain ⟨⟨hrc, hrs, hfr, hlo, hws, hcw⟩, hcode, hini, hy, hlen, hl, hstt⟩ := cw
  have hK : Back l R p e below s args y 3 8 (PreOf R mc ms Pc) (PostOf Qc mc ms free) := va_backW (hh := hh) (bytes := bytes) (maxL := maxL) (ret := ret) hM hp.1 hrc hrs hfr hlo hws hcw (fun a' U hW => word_at hW (Or.inl (by first | rfl | simp [Cond.onTables, Cond.keeps, Cond.steady])) hini)
  obtain ⟨hx, hb, hml, ho, -⟩ := S
  intro T hT X
  obtain ⟨v, vm₁, ⟨U', l2, c2, s2⟩, hW₁, X', ⟨g', mk, t, L, e1, e2, hq, h1, hL, h2, h3⟩, st⟩ := vx_callSW X hx (hh := hh) (bytes := bytes) (maxL := maxL) (ret := ret) ho hl hstt hini hcode hy hK hg (hsize.trans hml.symm) (argsL := As) (rest := rest) (fun sig h => hn.trans (hlen sig h)) hstack hW (by rw [hb]; exact hdg)
    (fun vm₁ hW₁ => ⟨hf.1, hf.2, hp.2 (T.setVm vm₁) hT hW₁⟩)
  dsimp only [Pt.U, Pt.locs, Pt.cells, Pt.slots] at X' e1 e2 h1 h2 h3 st
  subst h1; subst h2; subst h3
  exact ⟨v, (T.setVm vm₁).calling g' mk As.toArray, t, U', L, hT, X', hL, e1, e2, hq, st⟩
/-- a thing of a world lies in the heap -/
theorem vx_lt {D : va_G} {cl : List vw_C} {ws : va_W} {H1 : Heap} (h : va_P D cl ws H1) {k : Nat} {q : Nat × va_E} (hk : ws[k]? = some q) : q.1 < H1.size := (h k q hk).lt
end VXS
/-! ===== END ===== -/
/-! ===== BEGIN methods with a table of their own: called by a name, returning or throwing ===== -/
section VXH
/-! vx_backW, vx_callVX, vx_callSX, vx_callVW, vx_runVW, vx_runVX, vx_runSX, vx_ofWH follow the same proofs as their sisters above (Free/Laws.lean, Shelf42/LK1.lean); vx_outP calls Shelf42/NT130.lean (outThrough). -/
section
variable {l : Launch} {R : Room} {p : Program} {e : Env} {below : List Frame} {s : State} {sargs : Array Value} {y : MethodName} {len W9 : Nat}
theorem vx_backW {ws : List Cond} {rm : Room} {Pc : Array Value → State → Prop} {Qc : Array Value → State → Outcome → State → Prop} {XC : String → State → State → Prop} {mc ms : Nat} {free : Addr → Prop} {bytes : ByteArray} {maxL : Nat} {ret : Option FieldType} {hh : List (Nat × Nat × Nat × Nat)}
    (hM : vx_Met l y ws rm Pc Qc XC mc ms free) (hblind : FrameBlind Pc) (hrc : rm.cells = mc) (hrs : rm.slots = ms)
    (hframes : rm.frames + 1 ≤ R.frames) (hlocals : W9 + (maxL + 11) + rm.locals ≤ R.locals)
    (hws : ∀ w ∈ ws, ∀ a' U, s.WarmedH U.vm → w.before a' U = true) (hcode : Cond.codeWith y bytes maxL ret hh ∈ ws) (hinit : ∀ a' U, s.WarmedH U.vm → (Cond.initialized y.cls).before a' U = true) :
    vx_Back l R p e below s sargs y len W9 (PreOf R mc ms Pc) (PostOf Qc mc ms free) (vx_Post XC mc ms free) := by
  intro m meth c A g ig mk a X hg hsize hdg hW hn hp
  have h1 : (headSpec ws rm).pre.before a A.U = true := atoms_intro fun w hw => hws w hw _ _ X.warmed
  have h2 : (Cond.codeWith y bytes maxL ret hh).before a A.U = true := hws _ hcode _ _ X.warmed
  have h3 : (Cond.initialized y.cls).before a A.U = true := hinit _ _ X.warmed
  have h4 : A.cells + (headSpec ws rm).room.cells ≤ R.cells := by rw [show (headSpec ws rm).room.cells = mc from hrc]; exact hp.1
  have h5 : A.slots + (headSpec ws rm).room.slots ≤ R.slots := by rw [show (headSpec ws rm).room.slots = ms from hrs]; exact hp.2.1
  have hPc : Pc a (A.U.calling g mk a) := hblind _ _ _ _ hp.2.2
  obtain ⟨U, Ls, c0, s0⟩ := A
  dsimp only [Pt.U, Pt.locs, Pt.cells, Pt.slots] at h1 h2 h3 h4 h5 X hn hPc ⊢
  obtain ⟨m9, methY, cY, hn9, hmY, hcY, -, hlY, -⟩ := Cond.codeWith_spec h2
  cases Option.some.inj (hn9.symm.trans hn)
  obtain ⟨kY, hkY, -⟩ := className_of_methodNamed hn
  have hinitY : kY.init = .initialized := Cond.initialized_spec (findClass_of_methodNamed hn) hkY h3
  have h : At U g.method c below := by rw [hg]; exact X.here
  have hlocals9 : W9 + (maxL + 11) + (headSpec ws rm).room.locals ≤ R.locals := hlocals
  have happ : (headSpec ws rm).appliesLoose y e.platform (U.calling g mk a) = true :=
    Spec.appliesLoose_calling (g := g) h hdg hn hkY hinitY
      (X.room_calling (g := g) (R' := (headSpec ws rm).room) hsize hmY hcY hframes (by rw [hlY]; omega) h4 h5) h1
  obtain ⟨mid, hmid⟩ := h.above
  have hfr : (U.setTop g).frames = (.java g :: mid) ++ below := by rw [State.frames_setTop' g h.top, hmid]; rfl
  obtain ⟨o, s₂, hsteps, -, hend, hq⟩ := Steps.callFree hM p X.admits X.cas X.clock (acts := []) hfr happ hPc trivial
  have hq' : vx_Q Qc XC mc ms free a (U.calling g mk a) o s₂ := hq
  rw [State.frames_setTop' g h.top] at hend
  obtain ⟨g₀, hg0⟩ := Option.isSome_iff_exists.mp h.top
  obtain ⟨r, hr⟩ := State.topJava?_eq_some.mp hg0
  have hr' : (({ U with heap := s₂.heap, slotsUsed := s₂.slotsUsed } : State).setVm s₂.vm).frames = .java g₀ :: r := hr
  rcases hq' with ⟨hqc, L, hfe, hL⟩ | ⟨q, rfl, E, ce, L, hx, hce, hcv, hcl, hW₂, hsm, hL⟩
  · obtain ⟨⟨v, rfl⟩, hW₂, e2, q2, q3, q4, q5, q6⟩ := id hfe
    have e3 : s₂ = ({ (U.calling g mk a).setFrames s₂.frames with heap := s₂.heap, slotsUsed := s₂.slotsUsed } : State).setVm s₂.vm := by
      have : s₂ = ({ s₂ with vm := (U.calling g mk a).vm } : State).setVm s₂.vm := rfl
      rw [e2] at this
      exact this
    obtain ⟨c₂, i₂, len₂, hc₂, hd₂, hf₂⟩ := hend
    have hW' : U.WarmedH s₂.vm := hW₂
    have hcc : c₂ = c := by
      have h1 : s₂.code? g.method = U.code? g.method := by
        rw [State.code?_eq, State.code?_eq, hW'.alike.method?]
      exact Option.some.inj (hc₂.symm.trans (h1.trans h.code))
    subst hcc
    have hlen : len₂ = len := by rw [hdg] at hd₂; cases hd₂; rfl
    subst hlen
    have hs₂ : s₂ = (({ U with heap := s₂.heap, slotsUsed := s₂.slotsUsed } : State).setVm s₂.vm).setTop { g with pc := g.pc + len₂, stack := v.toList ++ g.stack } := by
      refine e3.trans ?_
      rw [hf₂, State.calling_eq h.top, State.setFrames_setFrames, State.setTop_of_frames _ hr', hr]
      rfl
    have hsame : U.sameButNew ({ U with heap := s₂.heap, slotsUsed := s₂.slotsUsed } : State) L mc ms := by
      refine ⟨?_, q2, q3, q4, q5, q6⟩
      obtain ⟨t, ht, -⟩ := State.frames_cons hr
      show ({ U with heap := s₂.heap, slotsUsed := s₂.slotsUsed } : State) = { U.setFrames U.frames with heap := s₂.heap, slotsUsed := s₂.slotsUsed }
      rw [State.setFrames_self ht]
    subst hg
    refine Or.inl ⟨v, ⟨(({ U with heap := s₂.heap, slotsUsed := s₂.slotsUsed } : State).setVm s₂.vm), Ls ++ L, c0 + mc, s0 + ms⟩,
      ⟨X.admits, X.cas, X.clock, X.frames, X.room, X.hears, X.method, X.code, (X.here.setHeapUsed s₂.heap s₂.slotsUsed).setVm hW'.alike, X.tail, State.WarmedH.trans X.warmed hW', X.limits, X.bytes, X.same.trans (hsame.setVm s.vm)⟩,
      ⟨g, mk, s₂, L, rfl, rfl, hqc, rfl, hL, rfl, rfl⟩, ?_⟩
    show Steps p.tables e below _ ((({ U with heap := s₂.heap, slotsUsed := s₂.slotsUsed } : State).setVm s₂.vm).setTop { g with pc := g.pc + len₂, stack := v.toList ++ g.stack })
    rw [← hs₂]
    exact hsteps
  · obtain ⟨e2, q2, q3, q4, q5, q6⟩ := id hsm
    have e3 : s₂ = ({ (U.calling g mk a).setFrames s₂.frames with heap := s₂.heap, slotsUsed := s₂.slotsUsed } : State).setVm s₂.vm := by
      have : s₂ = ({ s₂ with vm := (U.calling g mk a).vm } : State).setVm s₂.vm := rfl
      rw [e2] at this
      exact this
    have hf₂ : s₂.frames = .throwing q :: .java g :: U.frames.tail := hend
    have hW' : U.WarmedH s₂.vm := hW₂
    have hs₂ : s₂ = ((({ U with heap := s₂.heap, slotsUsed := s₂.slotsUsed } : State).setVm s₂.vm).setTop g).pushFrame (.throwing q) := by
      refine e3.trans ?_
      rw [hf₂, State.calling_eq h.top, State.setFrames_setFrames, State.pushFrame, State.frames_setTop _ hr', State.setTop_of_frames _ hr', State.setFrames_setFrames, hr]
      rfl
    have hsame : U.sameButNew ({ U with heap := s₂.heap, slotsUsed := s₂.slotsUsed } : State) L mc ms := by
      refine ⟨?_, q2, q3, q4, q5, q6⟩
      obtain ⟨t, ht, -⟩ := State.frames_cons hr
      show ({ U with heap := s₂.heap, slotsUsed := s₂.slotsUsed } : State) = { U.setFrames U.frames with heap := s₂.heap, slotsUsed := s₂.slotsUsed }
      rw [State.setFrames_self ht]
    subst hg
    refine Or.inr ⟨q, ⟨(({ U with heap := s₂.heap, slotsUsed := s₂.slotsUsed } : State).setVm s₂.vm), Ls ++ L, c0 + mc, s0 + ms⟩,
      ⟨X.admits, X.cas, X.clock, X.frames, X.room, X.hears, X.method, X.code, (X.here.setHeapUsed s₂.heap s₂.slotsUsed).setVm hW'.alike, X.tail, State.WarmedH.trans X.warmed hW', X.limits, X.bytes, X.same.trans (hsame.setVm s.vm)⟩,
      ⟨g, mk, s₂, L, E, ce, rfl, rfl, hx, hce, hcv, hcl, rfl, hL, rfl, rfl⟩, ?_⟩
    show Steps p.tables e below _ (((({ U with heap := s₂.heap, slotsUsed := s₂.slotsUsed } : State).setVm s₂.vm).setTop g).pushFrame (.throwing q))
    rw [← hs₂]
    exact hsteps
end
variable {p : Program} {l : Launch} {e : Env} {R : Room} {s : State} {m : MethodId} {args : Array Value} {below : List Frame} {meth : Method} {c : Code} {T : State} {H : Heap} {locs : List Loc} {cells slots : Nat}
theorem vx_callVX (X : Stand p l e R s m args below meth c T locs cells slots) (hexec : p.tables.exec = Jvm.exec) {own C : String} {index : Nat} {y : MethodName} {bytes : ByteArray} {maxL : Nat} {ret : Option FieldType} {hh : List (Nat × Nat × Nat × Nat)}
    (hown : s.vm.findClass own = some m.cls) (hlink : (Cond.methodLink own index y).before args s = true) (hinst : (Cond.instanceMethod y).before args s = true) (hsel : (Cond.selects C y y).before args s = true)
    (hcode : (Cond.codeWith y bytes maxL ret hh).before args s = true) (hy : y.cls ≠ "java/lang/invoke/MethodHandle" ∧ y.cls ≠ "java/lang/invoke/VarHandle")
    {W9 : Nat} {Pre : Pt → Array Value → Prop} {Post : Pt → Array Value → Option Value → Pt → Prop} {PostX : Pt → Array Value → Addr → Pt → Prop} (hK : vx_Back l R p e below s args y 3 W9 Pre Post PostX)
    {b : Addr} {cellB : Cell} (hcell : T.heap[b]? = some cellB) (hobj : cellB.vm.isStatics = false) (hcls : s.vm.findClass C = some cellB.cls)
    {g : JFrame} (hg : g.method = m) (hsize : g.locals.size = c.maxLocals) {argsL rest : List Value} (hlen : ∀ sig, parseMethodDescriptor y.desc = some sig → argsL.length = sig.parameters.length)
    (hstack : g.stack = argsL.reverse ++ .ref b :: rest) (hW : 2 * g.monitorRoom + (rest.map fun v => v.category).sum ≤ W9) (hdg : decode c.code g.pc = .ok (.invokevirtual index, 3))
    (hpre : ∀ vm₁, s.WarmedH vm₁ → Pre ⟨T.setVm vm₁, locs, cells, slots⟩ (Value.ref b :: argsL).toArray) :
    (∃ (v : Option Value) (vm₁ : Vm) (B : Pt), s.WarmedH vm₁ ∧ Stand p l e R s m args below meth c B.U B.locs B.cells B.slots ∧ Post ⟨T.setVm vm₁, locs, cells, slots⟩ (Value.ref b :: argsL).toArray v B ∧
      ∀ target, Steps p.tables e below (B.U.setTop { g with pc := g.pc + 3, stack := v.toList ++ rest }) target → Steps p.tables e below (T.setTop g) target) ∨
    (∃ (q : Addr) (vm₁ : Vm) (B : Pt), s.WarmedH vm₁ ∧ Stand p l e R s m args below meth c B.U B.locs B.cells B.slots ∧ PostX ⟨T.setVm vm₁, locs, cells, slots⟩ (Value.ref b :: argsL).toArray q B ∧
      Steps p.tables e below (T.setTop g) ((B.U.setTop { g with stack := rest }).pushFrame (.throwing q))) := by
  obtain ⟨mk, methM, hnamed, hmethM, hstM, habM⟩ := Cond.instanceMethod_spec hinst
  obtain ⟨m8, methM', cM, hn8, hmethM', -, -, -, -, -, -, hsigM⟩ := Cond.codeWith_spec hcode
  cases Option.some.inj (hn8.symm.trans hnamed)
  cases hmethM.symm.trans hmethM'
  obtain ⟨c2, r2, m2, q1, q2, q3, q4, kP, hkP, hkPi⟩ := Cond.selects_spec hsel
  cases hcls.symm.trans q1
  cases (State.methodFound?_of_named hnamed hy).symm.trans q2
  cases hnamed.symm.trans q3
  have hselP : selectMethod e.platform s.vm cellB.cls mk = .method mk := by rw [Launch.admits_selectMethod X.admits]; exact q4
  obtain ⟨vm₁, X₁, hstep₁⟩ := X.invokevirtual hexec hown hlink hnamed hmethM hstM hkP hkPi hy (a := b) (cell := cellB) hcell
    (fun z h => by rw [h] at hobj; cases hobj) hselP hmethM habM hkP hkPi (g := g) hg (argsL := argsL) (rest := rest) (hlen _ hsigM) hstack hdg
  rcases hK m meth c ⟨T.setVm vm₁, locs, cells, slots⟩ { g with stack := rest } (.invokevirtual index) mk (Value.ref b :: argsL).toArray X₁ hg hsize hdg hW (X₁.named hnamed) (hpre vm₁ X₁.warmed) with ⟨v, B, X', hpost, hsteps⟩ | ⟨q, B, X', hpost, hsteps⟩
  · exact Or.inl ⟨v, vm₁, B, X₁.warmed, X', hpost, fun target h => hstep₁ _ fun acts => by rw [doInvoke_state]; exact hsteps.trans h⟩
  · exact Or.inr ⟨q, vm₁, B, X₁.warmed, X', hpost, hstep₁ _ fun acts => by rw [doInvoke_state]; exact hsteps⟩
theorem vx_callSX (X : Stand p l e R s m args below meth c T locs cells slots) (hexec : p.tables.exec = Jvm.exec) {own : String} {index : Nat} {y : MethodName} {bytes : ByteArray} {maxL : Nat} {ret : Option FieldType} {hh : List (Nat × Nat × Nat × Nat)}
    (hown : s.vm.findClass own = some m.cls) (hlink : (Cond.methodLink own index y).before args s = true) (hstat : (Cond.static y).before args s = true) (hinit : (Cond.initialized y.cls).before args s = true)
    (hcode : (Cond.codeWith y bytes maxL ret hh).before args s = true) (hy : y.cls ≠ "java/lang/invoke/MethodHandle" ∧ y.cls ≠ "java/lang/invoke/VarHandle")
    {W9 : Nat} {Pre : Pt → Array Value → Prop} {Post : Pt → Array Value → Option Value → Pt → Prop} {PostX : Pt → Array Value → Addr → Pt → Prop} (hK : vx_Back l R p e below s args y 3 W9 Pre Post PostX)
    {g : JFrame} (hg : g.method = m) (hsize : g.locals.size = c.maxLocals) {argsL rest : List Value} (hlen : ∀ sig, parseMethodDescriptor y.desc = some sig → argsL.length = sig.parameters.length)
    (hstack : g.stack = argsL.reverse ++ rest) (hW : 2 * g.monitorRoom + (rest.map fun v => v.category).sum ≤ W9) (hdg : decode c.code g.pc = .ok (.invokestatic index, 3))
    (hpre : ∀ vm₁, s.WarmedH vm₁ → Pre ⟨T.setVm vm₁, locs, cells, slots⟩ argsL.toArray) :
    (∃ (v : Option Value) (vm₁ : Vm) (B : Pt), s.WarmedH vm₁ ∧ Stand p l e R s m args below meth c B.U B.locs B.cells B.slots ∧ Post ⟨T.setVm vm₁, locs, cells, slots⟩ argsL.toArray v B ∧
      ∀ target, Steps p.tables e below (B.U.setTop { g with pc := g.pc + 3, stack := v.toList ++ rest }) target → Steps p.tables e below (T.setTop g) target) ∨
    (∃ (q : Addr) (vm₁ : Vm) (B : Pt), s.WarmedH vm₁ ∧ Stand p l e R s m args below meth c B.U B.locs B.cells B.slots ∧ PostX ⟨T.setVm vm₁, locs, cells, slots⟩ argsL.toArray q B ∧
      Steps p.tables e below (T.setTop g) ((B.U.setTop { g with stack := rest }).pushFrame (.throwing q))) := by
  obtain ⟨mk, methM, cM, hnamed, hmethM, -, -, -, -, -, -, hsigM⟩ := Cond.codeWith_spec hcode
  have hstatic : methM.isStatic = true := Cond.static_spec hnamed hmethM hstat
  obtain ⟨kP, hkP, -⟩ := className_of_methodNamed hnamed
  have hinitP : kP.init = .initialized := Cond.initialized_spec (findClass_of_methodNamed hnamed) hkP hinit
  obtain ⟨vm₁, X₁, hstep₁⟩ := X.invokestatic hexec hown hlink hnamed hmethM hstatic hkP hinitP hy (g := g) hg (argsL := argsL) (rest := rest) (hlen _ hsigM) hstack hdg
  rcases hK m meth c ⟨T.setVm vm₁, locs, cells, slots⟩ { g with stack := rest } (.invokestatic index) mk argsL.toArray X₁ hg hsize hdg hW (X₁.named hnamed) (hpre vm₁ X₁.warmed) with ⟨v, B, X', hpost, hsteps⟩ | ⟨q, B, X', hpost, hsteps⟩
  · exact Or.inl ⟨v, vm₁, B, X₁.warmed, X', hpost, fun target h => hstep₁ _ fun acts => by rw [doInvoke_state]; exact hsteps.trans h⟩
  · exact Or.inr ⟨q, vm₁, B, X₁.warmed, X', hpost, hstep₁ _ fun acts => by rw [doInvoke_state]; exact hsteps⟩
theorem vx_callVW (X : Stand p l e R s m args below meth c T locs cells slots) (hexec : p.tables.exec = Jvm.exec) {own C : String} {index : Nat} {y : MethodName} {bytes : ByteArray} {maxL : Nat} {ret : Option FieldType} {hh : List (Nat × Nat × Nat × Nat)}
    (hown : s.vm.findClass own = some m.cls) (hlink : (Cond.methodLink own index y).before args s = true) (hinst : (Cond.instanceMethod y).before args s = true) (hsel : (Cond.selects C y y).before args s = true)
    (hcode : (Cond.codeWith y bytes maxL ret hh).before args s = true) (hy : y.cls ≠ "java/lang/invoke/MethodHandle" ∧ y.cls ≠ "java/lang/invoke/VarHandle")
    {W9 : Nat} {Pre : Pt → Array Value → Prop} {Post : Pt → Array Value → Option Value → Pt → Prop} (hK : Back l R p e below s args y 3 W9 Pre Post)
    {b : Addr} {cellB : Cell} (hcell : T.heap[b]? = some cellB) (hobj : cellB.vm.isStatics = false) (hcls : s.vm.findClass C = some cellB.cls)
    {g : JFrame} (hg : g.method = m) (hsize : g.locals.size = c.maxLocals) {argsL rest : List Value} (hlen : ∀ sig, parseMethodDescriptor y.desc = some sig → argsL.length = sig.parameters.length)
    (hstack : g.stack = argsL.reverse ++ .ref b :: rest) (hW : 2 * g.monitorRoom + (rest.map fun v => v.category).sum ≤ W9) (hdg : decode c.code g.pc = .ok (.invokevirtual index, 3))
    (hpre : ∀ vm₁, s.WarmedH vm₁ → Pre ⟨T.setVm vm₁, locs, cells, slots⟩ (Value.ref b :: argsL).toArray) :
    ∃ (v : Option Value) (vm₁ : Vm) (B : Pt), s.WarmedH vm₁ ∧ Stand p l e R s m args below meth c B.U B.locs B.cells B.slots ∧ Post ⟨T.setVm vm₁, locs, cells, slots⟩ (Value.ref b :: argsL).toArray v B ∧
      ∀ target, Steps p.tables e below (B.U.setTop { g with pc := g.pc + 3, stack := v.toList ++ rest }) target → Steps p.tables e below (T.setTop g) target := by
  obtain ⟨mk, methM, hnamed, hmethM, hstM, habM⟩ := Cond.instanceMethod_spec hinst
  obtain ⟨m8, methM', cM, hn8, hmethM', -, -, -, -, -, -, hsigM⟩ := Cond.codeWith_spec hcode
  cases Option.some.inj (hn8.symm.trans hnamed)
  cases hmethM.symm.trans hmethM'
  obtain ⟨c2, r2, m2, q1, q2, q3, q4, kP, hkP, hkPi⟩ := Cond.selects_spec hsel
  cases hcls.symm.trans q1
  cases (State.methodFound?_of_named hnamed hy).symm.trans q2
  cases hnamed.symm.trans q3
  have hselP : selectMethod e.platform s.vm cellB.cls mk = .method mk := by rw [Launch.admits_selectMethod X.admits]; exact q4
  obtain ⟨vm₁, X₁, hstep₁⟩ := X.invokevirtual hexec hown hlink hnamed hmethM hstM hkP hkPi hy (a := b) (cell := cellB) hcell
    (fun z h => by rw [h] at hobj; cases hobj) hselP hmethM habM hkP hkPi (g := g) hg (argsL := argsL) (rest := rest) (hlen _ hsigM) hstack hdg
  obtain ⟨v, B, X', hpost, hsteps⟩ := hK m meth c ⟨T.setVm vm₁, locs, cells, slots⟩ { g with stack := rest } (.invokevirtual index) mk (Value.ref b :: argsL).toArray X₁ hg hsize hdg hW (X₁.named hnamed) (hpre vm₁ X₁.warmed)
  exact ⟨v, vm₁, B, X₁.warmed, X', hpost, fun target h => hstep₁ _ fun acts => by rw [doInvoke_state]; exact hsteps.trans h⟩
abbrev vx_CVW (R : Room) (s : State) (args : Array Value) (own C : String) (index : Nat) (y : MethodName) (bytes : ByteArray) (maxL : Nat) (ret : Option FieldType) (hh : List (Nat × Nat × Nat × Nat)) (ws : List Cond) (rm : Room) (mc ms n : Nat) : Prop :=
  (rm.cells = mc ∧ rm.slots = ms ∧ rm.frames + 1 ≤ R.frames ∧ 8 + (maxL + 11) + rm.locals ≤ R.locals ∧ (∀ w ∈ ws, ∀ (a' : Array Value) (U : State), s.WarmedH U.vm → w.before a' U = true) ∧ Cond.codeWith y bytes maxL ret hh ∈ ws) ∧
  (Cond.codeWith y bytes maxL ret hh).before args s = true ∧ (Cond.initialized y.cls).before args s = true ∧ (y.cls ≠ "java/lang/invoke/MethodHandle" ∧ y.cls ≠ "java/lang/invoke/VarHandle") ∧
  (∀ sig, parseMethodDescriptor y.desc = some sig → n = sig.parameters.length) ∧ (Cond.methodLink own index y).before args s = true ∧ (Cond.instanceMethod y).before args s = true ∧ (Cond.selects C y y).before args s = true
theorem vx_cwVW {own C : String} {index maxL mc ms : Nat} {y : MethodName} {bytes : ByteArray} {ret : Option FieldType} {hh : List (Nat × Nat × Nat × Nat)} {Ts ws ws' : List Cond} {rm : Room} (n : Nat) (ht : ∀ w ∈ Ts, w.before args s = true) (hT : GoodIn Ts (wsV own index C y ws)) (hw : ws = Cond.codeWith y bytes maxL ret hh :: ws') (hrc : rm.cells = mc) (hrs : rm.slots = ms)
    (hd : y.cls = C ∧ y.cls ≠ "java/lang/invoke/MethodHandle" ∧ y.cls ≠ "java/lang/invoke/VarHandle" ∧ (parseMethodDescriptor y.desc).map (fun d => d.parameters.length) = some n) (hR : rm.frames + 1 ≤ R.frames ∧ 8 + (maxL + 11) + rm.locals ≤ R.locals) :
    vx_CVW R s args own C index y bytes maxL ret hh ws rm mc ms n := by
  obtain ⟨hC, hd⟩ := hd
  subst hC
  have ok : ∀ w ∈ wsV own index y.cls y ws, w.before args s = true := fun w h => ht w (hT w h).1
  have hG : GoodIn Ts ws := fun w h => hT w (by unfold wsV; exact List.mem_append_right _ h)
  have hc : Cond.codeWith y bytes maxL ret hh ∈ ws := by rw [hw]; exact List.mem_cons_self
  refine ⟨⟨hrc, hrs, hR.1, hR.2, pay_in ht hG, hc⟩, ht _ (hG _ hc).1, ok _ (by simp [wsV]), ⟨hd.1, hd.2.1⟩, fun sig h => ?_, ok _ (by simp [wsV]), ok _ (by simp [wsV]), ok _ (by simp [wsV])⟩
  have h2 := hd.2.2
  rw [h] at h2
  exact (Option.some.inj h2).symm
theorem vx_runVW {y : MethodName} {bytes cc : ByteArray} {maxL nL mc ms n index : Nat} {ret : Option FieldType} {hh : List (Nat × Nat × Nat × Nat)} {ws : List Cond} {rm : Room} {Pc : Array Value → State → Prop} {Qc : Array Value → State → Outcome → State → Prop} {free : Addr → Prop} {Ts : List Cond} {own C : String} {b : Addr} {As rest : List Value} {g : JFrame}
    (S : CallFix p m c cc nL s args Ts own) (hM : Met l y ws rm Pc Qc mc ms free) (cw : vx_CVW R s args own C index y bytes maxL ret hh ws rm mc ms n) (hp : PreV s H C b Pc As)
    (hg : g.method = m) (hn : As.length = n) (hsize : g.locals.size = nL) (hstack : g.stack = As.reverse ++ .ref b :: rest) (hW : 2 * g.monitorRoom + (rest.map fun v => v.category).sum ≤ 8) (hdg : decode cc g.pc = .ok (.invokevirtual index, 3)) (hf : cells + mc ≤ R.cells ∧ slots + ms ≤ R.slots) :
    va_Run p l e R s m args below meth c H locs cells slots mc ms g rest (Qc (Value.ref b :: As).toArray) free := by
  obtain ⟨⟨hrc, hrs, hfr, hlo, hws, hcw⟩, hcode, hini, hy, hlen, hl, hin, hse⟩ := cw
  have hK : Back l R p e below s args y 3 8 (PreOf R mc ms Pc) (PostOf Qc mc ms free) := va_backW (hh := hh) (bytes := bytes) (maxL := maxL) (ret := ret) hM hp.1 hrc hrs hfr hlo hws hcw (fun a' U hW => word_at hW (Or.inl (by first | rfl | simp [Cond.onTables, Cond.keeps, Cond.steady])) hini)
  obtain ⟨hx, hb, hml, ho, -⟩ := S
  obtain ⟨-, ⟨cellB, hcB, hoB, hclB⟩, hPc⟩ := hp
  intro T hT X
  obtain ⟨v, vm₁, ⟨U', l2, c2, s2⟩, hW₁, X', ⟨g', mk, t, L, e1, e2, hq, h1, hL, h2, h3⟩, st⟩ := vx_callVW X hx (C := C) (hh := hh) (bytes := bytes) (maxL := maxL) (ret := ret) ho hl hin hse hcode hy hK (by rw [hT]; exact hcB) hoB hclB hg (hsize.trans hml.symm) (argsL := As) (rest := rest) (fun sig h => hn.trans (hlen sig h)) hstack hW (by rw [hb]; exact hdg)
    (fun vm₁ hW₁ => ⟨hf.1, hf.2, hPc (T.setVm vm₁) hT hW₁⟩)
  dsimp only [Pt.U, Pt.locs, Pt.cells, Pt.slots] at X' e1 e2 h1 h2 h3 st
  subst h1; subst h2; subst h3
  exact ⟨v, (T.setVm vm₁).calling g' mk (Value.ref b :: As).toArray, t, U', L, hT, X', hL, e1, e2, hq, st⟩
section
variable {y : MethodName} {bytes cc : ByteArray} {maxL nL mc ms n index : Nat} {ret : Option FieldType} {ws : List Cond} {rm : Room} {Pc : Array Value → State → Prop} {Qc : Array Value → State → Outcome → State → Prop} {XC : String → State → State → Prop} {free : Addr → Prop} {Ts : List Cond} {own C : String} {b : Addr} {As rest : List Value} {g : JFrame}
theorem vx_runVX {hh : List (Nat × Nat × Nat × Nat)} (S : CallFix p m c cc nL s args Ts own) (hM : vx_Met l y ws rm Pc Qc XC mc ms free) (cw : vx_CVW R s args own C index y bytes maxL ret hh ws rm mc ms n) (hp : PreV s H C b Pc As)
    (hg : g.method = m) (hn : As.length = n) (hsize : g.locals.size = nL) (hstack : g.stack = As.reverse ++ .ref b :: rest) (hW : 2 * g.monitorRoom + (rest.map fun v => v.category).sum ≤ 8) (hdg : decode cc g.pc = .ok (.invokevirtual index, 3)) (hf : cells + mc ≤ R.cells ∧ slots + ms ≤ R.slots) :
    vx_Run p l e R s m args below meth c H locs cells slots mc ms g rest (Qc (Value.ref b :: As).toArray) XC free := by
  obtain ⟨⟨hrc, hrs, hfr, hlo, hws, hcw⟩, hcode, hini, hy, hlen, hl, hin, hse⟩ := cw
  have hK : vx_Back l R p e below s args y 3 8 (PreOf R mc ms Pc) (PostOf Qc mc ms free) (vx_Post XC mc ms free) := vx_backW (hh := hh) (bytes := bytes) (maxL := maxL) (ret := ret) hM hp.1 hrc hrs hfr hlo hws hcw (fun a' U hW => word_at hW (Or.inl (by first | rfl | simp [Cond.onTables, Cond.keeps, Cond.steady])) hini)
  obtain ⟨hx, hb, hml, ho, -⟩ := S
  obtain ⟨-, ⟨cellB, hcB, hoB, hclB⟩, hPc⟩ := hp
  intro T hT X
  rcases vx_callVX X hx (C := C) (hh := hh) (bytes := bytes) (maxL := maxL) (ret := ret) ho hl hin hse hcode hy hK (by rw [hT]; exact hcB) hoB hclB hg (hsize.trans hml.symm) (argsL := As) (rest := rest) (fun sig h => hn.trans (hlen sig h)) hstack hW (by rw [hb]; exact hdg)
    (fun vm₁ hW₁ => ⟨hf.1, hf.2, hPc (T.setVm vm₁) hT hW₁⟩) with ⟨v, vm₁, ⟨U', l2, c2, s2⟩, hW₁, X', ⟨g', mk, t, L, e1, e2, hq, h1, hL, h2, h3⟩, st⟩ | ⟨q, vm₁, ⟨U', l2, c2, s2⟩, hW₁, X', ⟨g', mk, t, L, E, ce, e1, e2, hq, hce, hcv, hcl, h1, hL, h2, h3⟩, st⟩
  · dsimp only [Pt.U, Pt.locs, Pt.cells, Pt.slots] at X' e1 e2 h1 h2 h3 st
    subst h1; subst h2; subst h3
    exact Or.inl ⟨v, (T.setVm vm₁).calling g' mk (Value.ref b :: As).toArray, t, U', L, hT, X', hL, e1, e2, hq, st⟩
  · dsimp only [Pt.U, Pt.locs, Pt.cells, Pt.slots] at X' e1 e2 h1 h2 h3 st hcl
    subst h1; subst h2; subst h3
    exact Or.inr ⟨q, (T.setVm vm₁).calling g' mk (Value.ref b :: As).toArray, t, U', L, E, ce, hT, X', hL, e1, e2, hq, hce, hcv, vx_cls hW₁ hcl, st⟩
theorem vx_runSX {hh : List (Nat × Nat × Nat × Nat)} (S : CallFix p m c cc nL s args Ts own) (hM : vx_Met l y ws rm Pc Qc XC mc ms free) (cw : vx_CSW R s args own index y bytes maxL ret hh ws rm mc ms n) (hp : PreS s H Pc As)
    (hg : g.method = m) (hn : As.length = n) (hsize : g.locals.size = nL) (hstack : g.stack = As.reverse ++ rest) (hW : 2 * g.monitorRoom + (rest.map fun v => v.category).sum ≤ 8) (hdg : decode cc g.pc = .ok (.invokestatic index, 3)) (hf : cells + mc ≤ R.cells ∧ slots + ms ≤ R.slots) :
    vx_Run p l e R s m args below meth c H locs cells slots mc ms g rest (Qc As.toArray) XC free := by
  obtain ⟨⟨hrc, hrs, hfr, hlo, hws, hcw⟩, hcode, hini, hy, hlen, hl, hstt⟩ := cw
  have hK : vx_Back l R p e below s args y 3 8 (PreOf R mc ms Pc) (PostOf Qc mc ms free) (vx_Post XC mc ms free) := vx_backW (hh := hh) (bytes := bytes) (maxL := maxL) (ret := ret) hM hp.1 hrc hrs hfr hlo hws hcw (fun a' U hW => word_at hW (Or.inl (by first | rfl | simp [Cond.onTables, Cond.keeps, Cond.steady])) hini)
  obtain ⟨hx, hb, hml, ho, -⟩ := S
  intro T hT X
  rcases vx_callSX X hx (hh := hh) (bytes := bytes) (maxL := maxL) (ret := ret) ho hl hstt hini hcode hy hK hg (hsize.trans hml.symm) (argsL := As) (rest := rest) (fun sig h => hn.trans (hlen sig h)) hstack hW (by rw [hb]; exact hdg)
    (fun vm₁ hW₁ => ⟨hf.1, hf.2, hp.2 (T.setVm vm₁) hT hW₁⟩) with ⟨v, vm₁, ⟨U', l2, c2, s2⟩, hW₁, X', ⟨g', mk, t, L, e1, e2, hq, h1, hL, h2, h3⟩, st⟩ | ⟨q, vm₁, ⟨U', l2, c2, s2⟩, hW₁, X', ⟨g', mk, t, L, E, ce, e1, e2, hq, hce, hcv, hcl, h1, hL, h2, h3⟩, st⟩
  · dsimp only [Pt.U, Pt.locs, Pt.cells, Pt.slots] at X' e1 e2 h1 h2 h3 st
    subst h1; subst h2; subst h3
    exact Or.inl ⟨v, (T.setVm vm₁).calling g' mk As.toArray, t, U', L, hT, X', hL, e1, e2, hq, st⟩
  · dsimp only [Pt.U, Pt.locs, Pt.cells, Pt.slots] at X' e1 e2 h1 h2 h3 st hcl
    subst h1; subst h2; subst h3
    exact Or.inr ⟨q, (T.setVm vm₁).calling g' mk As.toArray, t, U', L, E, ce, hT, X', hL, e1, e2, hq, hce, hcv, vx_cls hW₁ hcl, st⟩
end
end VXH
theorem vx_ofWH {l : Launch} {y : MethodName} {ws ws' : List Cond} {rm : Room} {Pc : Array Value → State → Prop} {Qc : Array Value → State → Outcome → State → Prop} {XC : String → State → State → Prop} {mc ms : Nat} {free : Addr → Prop} {cc : ByteArray} {maxL : Nat} {ret : Option FieldType} {hh : List (Nat × Nat × Nat × Nat)}
    (hy : plainName y.cls = true) (hw : ws = Cond.codeWith y cc maxL ret hh :: ws')
    (body : ∀ p e s m args below meth c s₁, BodyLoose p l y (headSpec ws rm) cc maxL ret e s m args below meth c s₁ → c.maxLocals = maxL → Pc args s →
      W p l e (headSpec ws rm).room s m args below meth c s.heap [] 0 0 (vx_MQ below Qc XC args s mc ms free) (entryFrame m args maxL)) : vx_Met l y ws rm Pc Qc XC mc ms free := by
  refine MetFree.of_bodyS (code := cc) (maxLocals := maxL) (ret := ret) hy ?_ ?_
  · intro args s m h hn
    obtain ⟨m9, meth, c, hn9, h1, h2, h3, h4, -, h5, h6, -⟩ := Cond.codeWith_spec (atoms_spec (ws := ws) h _ (by rw [hw]; exact List.mem_cons_self))
    cases hn.symm.trans hn9
    exact ⟨meth, c, h1, h2, h3, h4, h5, h6⟩
  · intro p e s m args below meth c s₁ B hml hP _
    have hh0 : s₁.heap = s.heap := by rw [B.state]; rfl
    obtain ⟨t, a1, o, b1, b2, b3⟩ := body p e s m args below meth c s₁ B hml hP s₁ hh0 (Stand.of_body B)
    exact ⟨t, o, a1, b1, b2, b3⟩
/-! ===== END ===== -/
end
section
/-! ===== BEGIN printed: names, fields, word lists, decode rows ===== -/
def RX0 : String := "ShareDisk$Clients"
def TX0 : u_T := fun k => match k with
  | 0 => ("ShareDisk$Clients", "there", "[Z", true)
  | 1 => ("ShareDisk$Clients", "sectorCost", "[I", true)
  | 2 => ("ShareDisk$Clients", "budget", "[I", true)
  | 3 => ("ShareDisk$Clients", "tag", "[J", true)
  | 4 => ("ShareDisk$Clients", "waiting", "[I", true)
  | 5 => ("ShareDisk$Clients", "sectors", "[I", true)
  | _ => ("ShareDisk$Clients", "lead", "[[J", true)
def tyX0 : Nat → FieldType := fun k => match k with
  | 0 => .array .boolean
  | 1 => .array .int
  | 2 => .array .int
  | 3 => .array .long
  | 4 => .array .int
  | 5 => .array .int
  | _ => .array (.array .long)
abbrev wsX00 : List Cond := u_ws RX0 TX0 7
theorem nmX0 : ∀ a, a < 7 → ∀ b, b < 7 → a ≠ b → (TX0 a).2.1 ≠ (TX0 b).2.1 := by decide +kernel
theorem tyX0_ok : ∀ k, k < 7 → parseFieldDescriptor (TX0 k).2.2.1 = some (tyX0 k) := by decide +kernel
abbrev cX0_init : ByteArray := prog_2_method_1_code
def yX0_init : MethodName := ⟨RX0, "<init>", "()V"⟩
abbrev cX0_isThere : ByteArray := prog_2_method_2_code
def yX0_isThere : MethodName := ⟨RX0, "isThere", "(I)Z"⟩
abbrev cX0_budgetOf : ByteArray := prog_2_method_3_code
def yX0_budgetOf : MethodName := ⟨RX0, "budgetOf", "(I)I"⟩
abbrev cX0_tagOf : ByteArray := prog_2_method_4_code
def yX0_tagOf : MethodName := ⟨RX0, "tagOf", "(I)J"⟩
abbrev cX0_waitingOf : ByteArray := prog_2_method_5_code
def yX0_waitingOf : MethodName := ⟨RX0, "waitingOf", "(I)I"⟩
abbrev cX0_sectorsOf : ByteArray := prog_2_method_6_code
def yX0_sectorsOf : MethodName := ⟨RX0, "sectorsOf", "(I)I"⟩
abbrev cX0_enter : ByteArray := prog_2_method_7_code
def yX0_enter : MethodName := ⟨RX0, "enter", "(IJ)V"⟩
abbrev cX0_setShare : ByteArray := prog_2_method_8_code
def yX0_setShare : MethodName := ⟨RX0, "setShare", "(III)V"⟩
abbrev cX0_leave : ByteArray := prog_2_method_9_code
def yX0_leave : MethodName := ⟨RX0, "leave", "(I)V"⟩
abbrev cX0_howMany : ByteArray := prog_2_method_10_code
def yX0_howMany : MethodName := ⟨RX0, "howMany", "()I"⟩
abbrev cX0_noteRequest : ByteArray := prog_2_method_11_code
def yX0_noteRequest : MethodName := ⟨RX0, "noteRequest", "(IJ)V"⟩
abbrev cX0_forgetLead : ByteArray := prog_2_method_12_code
def yX0_forgetLead : MethodName := ⟨RX0, "forgetLead", "(I)V"⟩
abbrev cX0_noteService : ByteArray := prog_2_method_13_code
def yX0_noteService : MethodName := ⟨RX0, "noteService", "(II)V"⟩
abbrev cX0_leadOf : ByteArray := prog_2_method_14_code
def yX0_leadOf : MethodName := ⟨RX0, "leadOf", "(II)J"⟩
abbrev cX0_nextInTurn : ByteArray := prog_2_method_15_code
def yX0_nextInTurn : MethodName := ⟨RX0, "nextInTurn", "()I"⟩
abbrev cX0_greatestTag : ByteArray := prog_2_method_16_code
def yX0_greatestTag : MethodName := ⟨RX0, "greatestTag", "(J)J"⟩
def RX1 : String := "ShareDisk$Requests"
def TX1 : u_T := fun k => match k with
  | 0 => ("ShareDisk$Requests", "owner", "[I", true)
  | 1 => ("ShareDisk$Requests", "write", "[Z", true)
  | 2 => ("ShareDisk$Requests", "first", "[I", true)
  | 3 => ("ShareDisk$Requests", "size", "[I", true)
  | 4 => ("ShareDisk$Requests", "deadline", "[J", true)
  | 5 => ("ShareDisk$Requests", "waits", "[Z", true)
  | 6 => ("ShareDisk$Requests", "blockers", "[I", true)
  | 7 => ("ShareDisk$Requests", "servedHow", "[I", true)
  | 8 => ("ShareDisk$Requests", "servedOrder", "[I", true)
  | 9 => ("ShareDisk$Requests", "tickets", "I", false)
  | 10 => ("ShareDisk$Requests", "served", "I", false)
  | _ => ("ShareDisk$Requests", "urgent", "I", false)
def tyX1 : Nat → FieldType := fun k => match k with
  | 0 => .array .int
  | 1 => .array .boolean
  | 2 => .array .int
  | 3 => .array .int
  | 4 => .array .long
  | 5 => .array .boolean
  | 6 => .array .int
  | 7 => .array .int
  | 8 => .array .int
  | 9 => .int
  | 10 => .int
  | _ => .int
abbrev wsX10 : List Cond := u_ws RX1 TX1 12
theorem nmX1 : ∀ a, a < 12 → ∀ b, b < 12 → a ≠ b → (TX1 a).2.1 ≠ (TX1 b).2.1 := by decide +kernel
theorem tyX1_ok : ∀ k, k < 12 → parseFieldDescriptor (TX1 k).2.2.1 = some (tyX1 k) := by decide +kernel
abbrev cX1_init : ByteArray := prog_3_method_1_code
def yX1_init : MethodName := ⟨RX1, "<init>", "()V"⟩
abbrev cX1_isFull : ByteArray := prog_3_method_2_code
def yX1_isFull : MethodName := ⟨RX1, "isFull", "()Z"⟩
abbrev cX1_isTicket : ByteArray := prog_3_method_3_code
def yX1_isTicket : MethodName := ⟨RX1, "isTicket", "(I)Z"⟩
abbrev cX1_ownerOf : ByteArray := prog_3_method_4_code
def yX1_ownerOf : MethodName := ⟨RX1, "ownerOf", "(I)I"⟩
abbrev cX1_firstOf : ByteArray := prog_3_method_5_code
def yX1_firstOf : MethodName := ⟨RX1, "firstOf", "(I)I"⟩
abbrev cX1_sizeOf : ByteArray := prog_3_method_6_code
def yX1_sizeOf : MethodName := ⟨RX1, "sizeOf", "(I)I"⟩
abbrev cX1_waiting : ByteArray := prog_3_method_7_code
def yX1_waiting : MethodName := ⟨RX1, "waiting", "()I"⟩
abbrev cX1_served : ByteArray := prog_3_method_8_code
def yX1_served : MethodName := ⟨RX1, "served", "()I"⟩
abbrev cX1_urgent : ByteArray := prog_3_method_9_code
def yX1_urgent : MethodName := ⟨RX1, "urgent", "()I"⟩
abbrev cX1_servedAt : ByteArray := prog_3_method_10_code
def yX1_servedAt : MethodName := ⟨RX1, "servedAt", "(I)I"⟩
abbrev cX1_stateOf : ByteArray := prog_3_method_11_code
def yX1_stateOf : MethodName := ⟨RX1, "stateOf", "(I)I"⟩
abbrev cX1_add : ByteArray := prog_3_method_12_code
def yX1_add : MethodName := ⟨RX1, "add", "(IZIIJ)I"⟩
abbrev cX1_markServed : ByteArray := prog_3_method_13_code
def yX1_markServed : MethodName := ⟨RX1, "markServed", "(II)V"⟩
abbrev cX1_mustKeepOrder : ByteArray := prog_3_method_14_code
def yX1_mustKeepOrder : MethodName := ⟨RX1, "mustKeepOrder", "(II)Z"⟩
abbrev cX1_mostUrgent : ByteArray := prog_3_method_15_code
def yX1_mostUrgent : MethodName := ⟨RX1, "mostUrgent", "(J)I"⟩
abbrev cX1_nextAlong : ByteArray := prog_3_method_16_code
def yX1_nextAlong : MethodName := ⟨RX1, "nextAlong", "(II)I"⟩
abbrev cX1_turnOf : ByteArray := prog_3_method_17_code
def yX1_turnOf : MethodName := ⟨RX1, "turnOf", "(II)I"⟩
def RX2 : String := "ShareDisk"
def TX2 : u_T := fun k => match k with
  | 0 => ("ShareDisk", "clients", "LShareDisk$Clients;", true)
  | 1 => ("ShareDisk", "requests", "LShareDisk$Requests;", true)
  | 2 => ("ShareDisk", "clock", "J", false)
  | 3 => ("ShareDisk", "head", "I", false)
  | 4 => ("ShareDisk", "passedOver", "J", false)
  | 5 => ("ShareDisk", "systemTag", "J", false)
  | 6 => ("ShareDisk", "sliceOwner", "I", false)
  | _ => ("ShareDisk", "sliceLeft", "I", false)
def tyX2 : Nat → FieldType := fun k => match k with
  | 0 => .object "ShareDisk$Clients"
  | 1 => .object "ShareDisk$Requests"
  | 2 => .long
  | 3 => .int
  | 4 => .long
  | 5 => .long
  | 6 => .int
  | _ => .int
abbrev wsX20 : List Cond := u_ws RX2 TX2 8
theorem nmX2 : ∀ a, a < 8 → ∀ b, b < 8 → a ≠ b → (TX2 a).2.1 ≠ (TX2 b).2.1 := by decide +kernel
theorem tyX2_ok : ∀ k, k < 8 → parseFieldDescriptor (TX2 k).2.2.1 = some (tyX2 k) := by decide +kernel
abbrev cX2_init : ByteArray := prog_1_method_1_code
def yX2_init : MethodName := ⟨RX2, "<init>", "()V"⟩
abbrev cX2_client : ByteArray := prog_1_method_2_code
def yX2_client : MethodName := ⟨RX2, "client", "(III)V"⟩
abbrev cX2_gone : ByteArray := prog_1_method_3_code
def yX2_gone : MethodName := ⟨RX2, "gone", "(I)V"⟩
abbrev cX2_submit : ByteArray := prog_1_method_4_code
def yX2_submit : MethodName := ⟨RX2, "submit", "(IZIII)I"⟩
abbrev cX2_dispatch : ByteArray := prog_1_method_5_code
def yX2_dispatch : MethodName := ⟨RX2, "dispatch", "()I"⟩
abbrev cX2_pass : ByteArray := prog_1_method_6_code
def yX2_pass : MethodName := ⟨RX2, "pass", "(I)J"⟩
abbrev cX2_state : ByteArray := prog_1_method_7_code
def yX2_state : MethodName := ⟨RX2, "state", "(I)I"⟩
abbrev cX2_order : ByteArray := prog_1_method_8_code
def yX2_order : MethodName := ⟨RX2, "order", "(I)I"⟩
abbrev cX2_tag : ByteArray := prog_1_method_9_code
def yX2_tag : MethodName := ⟨RX2, "tag", "(I)J"⟩
abbrev cX2_lag : ByteArray := prog_1_method_10_code
def yX2_lag : MethodName := ⟨RX2, "lag", "(II)J"⟩
abbrev cX2_count : ByteArray := prog_1_method_11_code
def yX2_count : MethodName := ⟨RX2, "count", "(I)J"⟩
abbrev cX2_countOfDisk : ByteArray := prog_1_method_12_code
def yX2_countOfDisk : MethodName := ⟨RX2, "countOfDisk", "(I)J"⟩
abbrev cX2_requireThere : ByteArray := prog_1_method_13_code
def yX2_requireThere : MethodName := ⟨RX2, "requireThere", "(I)V"⟩
abbrev cX2_isWithin : ByteArray := prog_1_method_14_code
def yX2_isWithin : MethodName := ⟨RX2, "isWithin", "(III)Z"⟩
abbrev cX2_areOnDisk : ByteArray := prog_1_method_15_code
def yX2_areOnDisk : MethodName := ⟨RX2, "areOnDisk", "(II)Z"⟩
abbrev cX2_beginSlice : ByteArray := prog_1_method_16_code
def yX2_beginSlice : MethodName := ⟨RX2, "beginSlice", "()V"⟩
abbrev cX2_endSlice : ByteArray := prog_1_method_17_code
def yX2_endSlice : MethodName := ⟨RX2, "endSlice", "()V"⟩
abbrev cX2_serve : ByteArray := prog_1_method_18_code
def yX2_serve : MethodName := ⟨RX2, "serve", "(II)V"⟩
abbrev cX2_moveHead : ByteArray := prog_1_method_19_code
def yX2_moveHead : MethodName := ⟨RX2, "moveHead", "(II)V"⟩
abbrev cX2_takeFromSlice : ByteArray := prog_1_method_20_code
def yX2_takeFromSlice : MethodName := ⟨RX2, "takeFromSlice", "(I)V"⟩
def RX3 : String := "ShareDiskModel"
def TX3 : u_T := fun k => match k with
  | 0 => ("ShareDiskModel", "thrown", "I", false)
  | 1 => ("ShareDiskModel", "clock", "J", false)
  | 2 => ("ShareDiskModel", "head", "I", false)
  | 3 => ("ShareDiskModel", "passed", "J", false)
  | 4 => ("ShareDiskModel", "there", "[Z", true)
  | 5 => ("ShareDiskModel", "weights", "[I", true)
  | 6 => ("ShareDiskModel", "budgets", "[I", true)
  | 7 => ("ShareDiskModel", "tags", "[J", true)
  | 8 => ("ShareDiskModel", "sectors", "[J", true)
  | 9 => ("ShareDiskModel", "grown", "[J", true)
  | 10 => ("ShareDiskModel", "bases", "[J", true)
  | 11 => ("ShareDiskModel", "tickets", "I", false)
  | 12 => ("ShareDiskModel", "served", "I", false)
  | 13 => ("ShareDiskModel", "urgents", "I", false)
  | 14 => ("ShareDiskModel", "clientOf", "[I", true)
  | 15 => ("ShareDiskModel", "first", "[I", true)
  | 16 => ("ShareDiskModel", "counts", "[I", true)
  | 17 => ("ShareDiskModel", "order", "[I", true)
  | 18 => ("ShareDiskModel", "writes", "[Z", true)
  | 19 => ("ShareDiskModel", "done", "[Z", true)
  | 20 => ("ShareDiskModel", "urgent", "[Z", true)
  | 21 => ("ShareDiskModel", "deadlines", "[J", true)
  | 22 => ("ShareDiskModel", "slice", "I", false)
  | _ => ("ShareDiskModel", "left", "I", false)
def tyX3 : Nat → FieldType := fun k => match k with
  | 0 => .int
  | 1 => .long
  | 2 => .int
  | 3 => .long
  | 4 => .array .boolean
  | 5 => .array .int
  | 6 => .array .int
  | 7 => .array .long
  | 8 => .array .long
  | 9 => .array .long
  | 10 => .array .long
  | 11 => .int
  | 12 => .int
  | 13 => .int
  | 14 => .array .int
  | 15 => .array .int
  | 16 => .array .int
  | 17 => .array .int
  | 18 => .array .boolean
  | 19 => .array .boolean
  | 20 => .array .boolean
  | 21 => .array .long
  | 22 => .int
  | _ => .int
abbrev wsX30 : List Cond := u_ws RX3 TX3 24
theorem nmX3 : ∀ a, a < 24 → ∀ b, b < 24 → a ≠ b → (TX3 a).2.1 ≠ (TX3 b).2.1 := by decide +kernel
theorem tyX3_ok : ∀ k, k < 24 → parseFieldDescriptor (TX3 k).2.2.1 = some (tyX3 k) := by decide +kernel
abbrev cX3_init : ByteArray := prog_5_method_1_code
def yX3_init : MethodName := ⟨RX3, "<init>", "()V"⟩
abbrev cX3_thrown : ByteArray := prog_5_method_2_code
def yX3_thrown : MethodName := ⟨RX3, "thrown", "()I"⟩
abbrev cX3_fails : ByteArray := prog_5_method_3_code
def yX3_fails : MethodName := ⟨RX3, "fails", "(ZZ)Z"⟩
abbrev cX3_in : ByteArray := prog_5_method_4_code
def yX3_in : MethodName := ⟨RX3, "in", "(JJJ)Z"⟩
abbrev cX3_isThere : ByteArray := prog_5_method_5_code
def yX3_isThere : MethodName := ⟨RX3, "isThere", "(I)Z"⟩
abbrev cX3_waiting : ByteArray := prog_5_method_6_code
def yX3_waiting : MethodName := ⟨RX3, "waiting", "(I)I"⟩
abbrev cX3_client : ByteArray := prog_5_method_7_code
def yX3_client : MethodName := ⟨RX3, "client", "(III)V"⟩
abbrev cX3_gone : ByteArray := prog_5_method_8_code
def yX3_gone : MethodName := ⟨RX3, "gone", "(I)V"⟩
abbrev cX3_end : ByteArray := prog_5_method_9_code
def yX3_end : MethodName := ⟨RX3, "end", "()V"⟩
abbrev cX3_submit : ByteArray := prog_5_method_10_code
def yX3_submit : MethodName := ⟨RX3, "submit", "(IZIII)I"⟩
abbrev cX3_begin : ByteArray := prog_5_method_11_code
def yX3_begin : MethodName := ⟨RX3, "begin", "(I)V"⟩
abbrev cX3_isBlocked : ByteArray := prog_5_method_12_code
def yX3_isBlocked : MethodName := ⟨RX3, "isBlocked", "(I)Z"⟩
abbrev cX3_canGo : ByteArray := prog_5_method_13_code
def yX3_canGo : MethodName := ⟨RX3, "canGo", "(I)Z"⟩
abbrev cX3_due : ByteArray := prog_5_method_14_code
def yX3_due : MethodName := ⟨RX3, "due", "()I"⟩
abbrev cX3_choose : ByteArray := prog_5_method_15_code
def yX3_choose : MethodName := ⟨RX3, "choose", "()V"⟩
abbrev cX3_next : ByteArray := prog_5_method_16_code
def yX3_next : MethodName := ⟨RX3, "next", "()I"⟩
abbrev cX3_ahead : ByteArray := prog_5_method_17_code
def yX3_ahead : MethodName := ⟨RX3, "ahead", "(I)I"⟩
abbrev cX3_dispatch : ByteArray := prog_5_method_18_code
def yX3_dispatch : MethodName := ⟨RX3, "dispatch", "()I"⟩
abbrev cX3_serve : ByteArray := prog_5_method_19_code
def yX3_serve : MethodName := ⟨RX3, "serve", "(IZ)V"⟩
abbrev cX3_pass : ByteArray := prog_5_method_20_code
def yX3_pass : MethodName := ⟨RX3, "pass", "(I)J"⟩
abbrev cX3_state : ByteArray := prog_5_method_21_code
def yX3_state : MethodName := ⟨RX3, "state", "(I)I"⟩
abbrev cX3_order : ByteArray := prog_5_method_22_code
def yX3_order : MethodName := ⟨RX3, "order", "(I)I"⟩
abbrev cX3_tag : ByteArray := prog_5_method_23_code
def yX3_tag : MethodName := ⟨RX3, "tag", "(I)J"⟩
abbrev cX3_lag : ByteArray := prog_5_method_24_code
def yX3_lag : MethodName := ⟨RX3, "lag", "(II)J"⟩
abbrev cX3_count : ByteArray := prog_5_method_25_code
def yX3_count : MethodName := ⟨RX3, "count", "(I)J"⟩
def RJ9 : String := "java/lang/Math"
def TJ9 : u_T := fun k => match k with
  | _ => ("", "", "", false)
def tyJ9 : Nat → FieldType := fun k => match k with
  | _ => .int
abbrev wsJ90 : List Cond := u_ws RJ9 TJ9 0
theorem nmJ9 : ∀ a, a < 0 → ∀ b, b < 0 → a ≠ b → (TJ9 a).2.1 ≠ (TJ9 b).2.1 := by decide +kernel
theorem tyJ9_ok : ∀ k, k < 0 → parseFieldDescriptor (TJ9 k).2.2.1 = some (tyJ9 k) := by decide +kernel
abbrev cJ9_abs_0f7a4 : ByteArray := prog_10_method_59_code
def yJ9_abs_0f7a4 : MethodName := ⟨RJ9, "abs", "(I)I"⟩
abbrev cJ9_max_f86c9 : ByteArray := prog_10_method_66_code
def yJ9_max_f86c9 : MethodName := ⟨RJ9, "max", "(JJ)J"⟩
def RL : String := "ShareDiskLaw"
abbrev cL_client : ByteArray := method_3_code
def yL_client : MethodName := ⟨RL, "client", "(LShareDisk;III)I"⟩
abbrev cL_gone : ByteArray := method_4_code
def yL_gone : MethodName := ⟨RL, "gone", "(LShareDisk;I)I"⟩
abbrev cL_submit : ByteArray := method_5_code
def yL_submit : MethodName := ⟨RL, "submit", "(LShareDisk;IZIII[J)I"⟩
abbrev cL_pass : ByteArray := method_6_code
def yL_pass : MethodName := ⟨RL, "pass", "(LShareDisk;I[J)I"⟩
abbrev cL_state : ByteArray := method_7_code
def yL_state : MethodName := ⟨RL, "state", "(LShareDisk;I[J)I"⟩
abbrev cL_tag : ByteArray := method_8_code
def yL_tag : MethodName := ⟨RL, "tag", "(LShareDisk;I[J)I"⟩
abbrev cL_lag : ByteArray := method_9_code
def yL_lag : MethodName := ⟨RL, "lag", "(LShareDisk;II[J)I"⟩
abbrev cL_law : ByteArray := code
def yL_law : MethodName := ⟨RL, "law", "([I)Z"⟩
def wsX0_init : List Cond := .code yX0_init cX0_init 1 none :: ([.methodLink RX0 3 objectInit, .instanceMethod objectInit, .code objectInit ⟨#[0xb1]⟩ 1 none, .arrayClass .boolean, .fieldLink RX0 9 "ShareDisk$Clients" "there" "[Z", .arrayClass .int, .fieldLink RX0 15 "ShareDisk$Clients" "sectorCost" "[I", .fieldLink RX0 19 "ShareDisk$Clients" "budget" "[I", .arrayClass .long, .fieldLink RX0 22 "ShareDisk$Clients" "tag" "[J", .fieldLink RX0 26 "ShareDisk$Clients" "waiting" "[I", .fieldLink RX0 29 "ShareDisk$Clients" "sectors" "[I", .classLink RX0 32 "[[J", .fieldLink RX0 34 "ShareDisk$Clients" "lead" "[[J"] ++ wsX00)
def wsX0_isThere : List Cond := .code yX0_isThere cX0_isThere 2 (some .boolean) :: ([.fieldLink RX0 9 "ShareDisk$Clients" "there" "[Z"] ++ wsX00)
def wsX0_budgetOf : List Cond := .code yX0_budgetOf cX0_budgetOf 2 (some .int) :: ([.fieldLink RX0 19 "ShareDisk$Clients" "budget" "[I"] ++ wsX00)
def wsX0_tagOf : List Cond := .code yX0_tagOf cX0_tagOf 2 (some .long) :: ([.fieldLink RX0 22 "ShareDisk$Clients" "tag" "[J"] ++ wsX00)
def wsX0_waitingOf : List Cond := .code yX0_waitingOf cX0_waitingOf 2 (some .int) :: ([.fieldLink RX0 26 "ShareDisk$Clients" "waiting" "[I"] ++ wsX00)
def wsX0_sectorsOf : List Cond := .code yX0_sectorsOf cX0_sectorsOf 2 (some .int) :: ([.fieldLink RX0 29 "ShareDisk$Clients" "sectors" "[I"] ++ wsX00)
def wsX0_enter : List Cond := .code yX0_enter cX0_enter 4 none :: ([.fieldLink RX0 9 "ShareDisk$Clients" "there" "[Z", .fieldLink RX0 22 "ShareDisk$Clients" "tag" "[J"] ++ wsX00)
def wsX0_setShare : List Cond := .code yX0_setShare cX0_setShare 4 none :: ([.fieldLink RX0 15 "ShareDisk$Clients" "sectorCost" "[I", .fieldLink RX0 19 "ShareDisk$Clients" "budget" "[I"] ++ wsX00)
def wsX0_leave : List Cond := .code yX0_leave cX0_leave 2 none :: ([.fieldLink RX0 9 "ShareDisk$Clients" "there" "[Z", .fieldLink RX0 29 "ShareDisk$Clients" "sectors" "[I"] ++ wsX00)
def wsX0_howMany : List Cond := .code yX0_howMany cX0_howMany 3 (some .int) :: ([.fieldLink RX0 9 "ShareDisk$Clients" "there" "[Z"] ++ wsX00)
def wsX0_forgetLead : List Cond := .code yX0_forgetLead cX0_forgetLead 3 none :: ([.fieldLink RX0 34 "ShareDisk$Clients" "lead" "[[J"] ++ wsX00)
def wsX0_noteRequest : List Cond := .code yX0_noteRequest cX0_noteRequest 4 none :: ([.fieldLink RX0 26 "ShareDisk$Clients" "waiting" "[I", .fieldLink RX0 22 "ShareDisk$Clients" "tag" "[J", .methodLink RX0 37 Lib.MathLoose.max_long.x, .static Lib.MathLoose.max_long.x, .initialized "java/lang/Math", .code Lib.MathLoose.max_long.x Lib.MathLoose.max_long.code 4 (some .long), .methodLink RX0 43 yX0_forgetLead, .instanceMethod yX0_forgetLead, .selects RX0 yX0_forgetLead yX0_forgetLead, .initialized RX0, .code yX0_forgetLead cX0_forgetLead 3 none, .fieldLink RX0 34 "ShareDisk$Clients" "lead" "[[J"] ++ wsX00)
def wsX0_noteService : List Cond := .code yX0_noteService cX0_noteService 6 none :: ([.fieldLink RX0 15 "ShareDisk$Clients" "sectorCost" "[I", .fieldLink RX0 22 "ShareDisk$Clients" "tag" "[J", .fieldLink RX0 29 "ShareDisk$Clients" "sectors" "[I", .fieldLink RX0 26 "ShareDisk$Clients" "waiting" "[I", .fieldLink RX0 34 "ShareDisk$Clients" "lead" "[[J"] ++ wsX00)
def wsX0_leadOf : List Cond := .code yX0_leadOf cX0_leadOf 3 (some .long) :: ([.fieldLink RX0 26 "ShareDisk$Clients" "waiting" "[I", .fieldLink RX0 34 "ShareDisk$Clients" "lead" "[[J"] ++ wsX00)
def wsX0_nextInTurn : List Cond := .code yX0_nextInTurn cX0_nextInTurn 3 (some .int) :: ([.fieldLink RX0 26 "ShareDisk$Clients" "waiting" "[I", .fieldLink RX0 22 "ShareDisk$Clients" "tag" "[J"] ++ wsX00)
def wsX0_greatestTag : List Cond := .code yX0_greatestTag cX0_greatestTag 6 (some .long) :: ([.fieldLink RX0 9 "ShareDisk$Clients" "there" "[Z", .fieldLink RX0 22 "ShareDisk$Clients" "tag" "[J", .methodLink RX0 37 Lib.MathLoose.max_long.x, .static Lib.MathLoose.max_long.x, .initialized "java/lang/Math", .code Lib.MathLoose.max_long.x Lib.MathLoose.max_long.code 4 (some .long)] ++ wsX00)
def wsX1_init : List Cond := .code yX1_init cX1_init 1 none :: ([.methodLink RX1 3 objectInit, .instanceMethod objectInit, .code objectInit ⟨#[0xb1]⟩ 1 none, .arrayClass .int, .fieldLink RX1 9 "ShareDisk$Requests" "owner" "[I", .arrayClass .boolean, .fieldLink RX1 15 "ShareDisk$Requests" "write" "[Z", .fieldLink RX1 19 "ShareDisk$Requests" "first" "[I", .fieldLink RX1 22 "ShareDisk$Requests" "size" "[I", .arrayClass .long, .fieldLink RX1 25 "ShareDisk$Requests" "deadline" "[J", .fieldLink RX1 29 "ShareDisk$Requests" "waits" "[Z", .fieldLink RX1 32 "ShareDisk$Requests" "blockers" "[I", .fieldLink RX1 35 "ShareDisk$Requests" "servedHow" "[I", .fieldLink RX1 38 "ShareDisk$Requests" "servedOrder" "[I"] ++ wsX10)
def wsX1_isFull : List Cond := .code yX1_isFull cX1_isFull 1 (some .boolean) :: ([.fieldLink RX1 41 "ShareDisk$Requests" "tickets" "I"] ++ wsX10)
def wsX1_isTicket : List Cond := .code yX1_isTicket cX1_isTicket 2 (some .boolean) :: ([.fieldLink RX1 41 "ShareDisk$Requests" "tickets" "I"] ++ wsX10)
def wsX1_ownerOf : List Cond := .code yX1_ownerOf cX1_ownerOf 2 (some .int) :: ([.fieldLink RX1 9 "ShareDisk$Requests" "owner" "[I"] ++ wsX10)
def wsX1_firstOf : List Cond := .code yX1_firstOf cX1_firstOf 2 (some .int) :: ([.fieldLink RX1 19 "ShareDisk$Requests" "first" "[I"] ++ wsX10)
def wsX1_sizeOf : List Cond := .code yX1_sizeOf cX1_sizeOf 2 (some .int) :: ([.fieldLink RX1 22 "ShareDisk$Requests" "size" "[I"] ++ wsX10)
def wsX1_waiting : List Cond := .code yX1_waiting cX1_waiting 1 (some .int) :: ([.fieldLink RX1 41 "ShareDisk$Requests" "tickets" "I", .fieldLink RX1 45 "ShareDisk$Requests" "served" "I"] ++ wsX10)
def wsX1_served : List Cond := .code yX1_served cX1_served 1 (some .int) :: ([.fieldLink RX1 45 "ShareDisk$Requests" "served" "I"] ++ wsX10)
def wsX1_urgent : List Cond := .code yX1_urgent cX1_urgent 1 (some .int) :: ([.fieldLink RX1 48 "ShareDisk$Requests" "urgent" "I"] ++ wsX10)
def wsX1_servedAt : List Cond := .code yX1_servedAt cX1_servedAt 2 (some .int) :: ([.fieldLink RX1 45 "ShareDisk$Requests" "served" "I", .fieldLink RX1 38 "ShareDisk$Requests" "servedOrder" "[I"] ++ wsX10)
def wsX1_stateOf : List Cond := .code yX1_stateOf cX1_stateOf 2 (some .int) :: ([.fieldLink RX1 29 "ShareDisk$Requests" "waits" "[Z", .fieldLink RX1 35 "ShareDisk$Requests" "servedHow" "[I", .fieldLink RX1 32 "ShareDisk$Requests" "blockers" "[I"] ++ wsX10)
def wsX1_mustKeepOrder : List Cond := .code yX1_mustKeepOrder cX1_mustKeepOrder 3 (some .boolean) :: ([.fieldLink RX1 9 "ShareDisk$Requests" "owner" "[I", .fieldLink RX1 15 "ShareDisk$Requests" "write" "[Z", .fieldLink RX1 19 "ShareDisk$Requests" "first" "[I", .fieldLink RX1 22 "ShareDisk$Requests" "size" "[I"] ++ wsX10)
def wsX1_add : List Cond := .code yX1_add cX1_add 9 (some .int) :: ([.fieldLink RX1 41 "ShareDisk$Requests" "tickets" "I", .fieldLink RX1 9 "ShareDisk$Requests" "owner" "[I", .fieldLink RX1 15 "ShareDisk$Requests" "write" "[Z", .fieldLink RX1 19 "ShareDisk$Requests" "first" "[I", .fieldLink RX1 22 "ShareDisk$Requests" "size" "[I", .fieldLink RX1 25 "ShareDisk$Requests" "deadline" "[J", .fieldLink RX1 29 "ShareDisk$Requests" "waits" "[Z", .fieldLink RX1 32 "ShareDisk$Requests" "blockers" "[I", .methodLink RX1 51 yX1_mustKeepOrder, .instanceMethod yX1_mustKeepOrder, .selects RX1 yX1_mustKeepOrder yX1_mustKeepOrder, .initialized RX1, .code yX1_mustKeepOrder cX1_mustKeepOrder 3 (some .boolean)] ++ wsX10)
def wsX1_markServed : List Cond := .code yX1_markServed cX1_markServed 4 none :: ([.fieldLink RX1 29 "ShareDisk$Requests" "waits" "[Z", .fieldLink RX1 35 "ShareDisk$Requests" "servedHow" "[I", .fieldLink RX1 38 "ShareDisk$Requests" "servedOrder" "[I", .fieldLink RX1 45 "ShareDisk$Requests" "served" "I", .fieldLink RX1 48 "ShareDisk$Requests" "urgent" "I", .fieldLink RX1 41 "ShareDisk$Requests" "tickets" "I", .fieldLink RX1 32 "ShareDisk$Requests" "blockers" "[I", .methodLink RX1 51 yX1_mustKeepOrder, .instanceMethod yX1_mustKeepOrder, .selects RX1 yX1_mustKeepOrder yX1_mustKeepOrder, .initialized RX1, .code yX1_mustKeepOrder cX1_mustKeepOrder 3 (some .boolean), .fieldLink RX1 9 "ShareDisk$Requests" "owner" "[I", .fieldLink RX1 15 "ShareDisk$Requests" "write" "[Z", .fieldLink RX1 19 "ShareDisk$Requests" "first" "[I", .fieldLink RX1 22 "ShareDisk$Requests" "size" "[I"] ++ wsX10)
def wsX1_mostUrgent : List Cond := .code yX1_mostUrgent cX1_mostUrgent 5 (some .int) :: ([.fieldLink RX1 41 "ShareDisk$Requests" "tickets" "I", .fieldLink RX1 25 "ShareDisk$Requests" "deadline" "[J", .methodLink RX1 55 yX1_stateOf, .instanceMethod yX1_stateOf, .selects RX1 yX1_stateOf yX1_stateOf, .initialized RX1, .code yX1_stateOf cX1_stateOf 2 (some .int), .fieldLink RX1 29 "ShareDisk$Requests" "waits" "[Z", .fieldLink RX1 35 "ShareDisk$Requests" "servedHow" "[I", .fieldLink RX1 32 "ShareDisk$Requests" "blockers" "[I"] ++ wsX10)
def wsX1_turnOf : List Cond := .code yX1_turnOf cX1_turnOf 3 (some .int) :: ([.fieldLink RX1 19 "ShareDisk$Requests" "first" "[I", .constant RX1 63 (100000)] ++ wsX10)
def wsX1_nextAlong : List Cond := .code yX1_nextAlong cX1_nextAlong 5 (some .int) :: ([.fieldLink RX1 41 "ShareDisk$Requests" "tickets" "I", .fieldLink RX1 9 "ShareDisk$Requests" "owner" "[I", .methodLink RX1 55 yX1_stateOf, .instanceMethod yX1_stateOf, .selects RX1 yX1_stateOf yX1_stateOf, .initialized RX1, .code yX1_stateOf cX1_stateOf 2 (some .int), .fieldLink RX1 29 "ShareDisk$Requests" "waits" "[Z", .fieldLink RX1 35 "ShareDisk$Requests" "servedHow" "[I", .fieldLink RX1 32 "ShareDisk$Requests" "blockers" "[I", .methodLink RX1 59 yX1_turnOf, .instanceMethod yX1_turnOf, .selects RX1 yX1_turnOf yX1_turnOf, .code yX1_turnOf cX1_turnOf 3 (some .int), .fieldLink RX1 19 "ShareDisk$Requests" "first" "[I", .constant RX1 63 (100000)] ++ wsX10)
def wsX2_init_r1 : List Cond := [Cond.methodLink RX2 1 objectInit, Cond.instanceMethod objectInit, Cond.code objectInit ⟨#[0xb1]⟩ 1 none, Cond.classLink RX2 7 RX0, Cond.instantiable RX0 7, Cond.initialized RX0, Cond.fieldLink RX2 10 "ShareDisk" "clients" "LShareDisk$Clients;", Cond.classLink RX2 16 RX1, Cond.instantiable RX1 12, Cond.initialized RX1, Cond.fieldLink RX2 19 "ShareDisk" "requests" "LShareDisk$Requests;", Cond.fieldLink RX2 23 "ShareDisk" "sliceOwner" "I", Cond.instanceMethod yX0_init, Cond.code yX0_init cX0_init 1 none, Cond.methodLink RX0 3 objectInit, Cond.arrayClass .boolean, Cond.fieldLink RX0 9 "ShareDisk$Clients" "there" "[Z", Cond.arrayClass .int, Cond.fieldLink RX0 15 "ShareDisk$Clients" "sectorCost" "[I", Cond.fieldLink RX0 19 "ShareDisk$Clients" "budget" "[I", Cond.arrayClass .long, Cond.fieldLink RX0 22 "ShareDisk$Clients" "tag" "[J", Cond.fieldLink RX0 26 "ShareDisk$Clients" "waiting" "[I", Cond.fieldLink RX0 29 "ShareDisk$Clients" "sectors" "[I"]
def wsX2_init_r2 : List Cond := [Cond.classLink RX0 32 "[[J", Cond.fieldLink RX0 34 "ShareDisk$Clients" "lead" "[[J", Cond.instanceMethod yX1_init, Cond.code yX1_init cX1_init 1 none, Cond.methodLink RX1 3 objectInit, Cond.fieldLink RX1 9 "ShareDisk$Requests" "owner" "[I", Cond.fieldLink RX1 15 "ShareDisk$Requests" "write" "[Z", Cond.fieldLink RX1 19 "ShareDisk$Requests" "first" "[I", Cond.fieldLink RX1 22 "ShareDisk$Requests" "size" "[I", Cond.fieldLink RX1 25 "ShareDisk$Requests" "deadline" "[J", Cond.fieldLink RX1 29 "ShareDisk$Requests" "waits" "[Z", Cond.fieldLink RX1 32 "ShareDisk$Requests" "blockers" "[I", Cond.fieldLink RX1 35 "ShareDisk$Requests" "servedHow" "[I", Cond.fieldLink RX1 38 "ShareDisk$Requests" "servedOrder" "[I"]
def wsX2_init : List Cond := .code yX2_init cX2_init 1 none :: ((wsX2_init_r1 ++ wsX2_init_r2) ++ wsX00 ++ wsX20 ++ wsX10)
def wsX2_isWithin : List Cond := .code yX2_isWithin cX2_isWithin 3 (some .boolean) :: ([])
def wsX2_client_r1 : List Cond := [Cond.classLink RX2 31 "java/lang/IllegalArgumentException", Cond.initialized "java/lang/IllegalArgumentException", Cond.fieldLink RX2 10 "ShareDisk" "clients" "LShareDisk$Clients;", Cond.fieldLink RX2 38 "ShareDisk" "systemTag" "J", Cond.methodLink RX2 27 yX2_isWithin, Cond.static yX2_isWithin, Cond.initialized RX2, Cond.code yX2_isWithin cX2_isWithin 3 (some .boolean), Cond.methodLink RX2 34 yX0_isThere, Cond.instanceMethod yX0_isThere, Cond.selects RX0 yX0_isThere yX0_isThere, Cond.initialized RX0, Cond.code yX0_isThere cX0_isThere 2 (some .boolean), Cond.fieldLink RX0 9 "ShareDisk$Clients" "there" "[Z", Cond.methodLink RX2 42 yX0_enter, Cond.instanceMethod yX0_enter, Cond.selects RX0 yX0_enter yX0_enter, Cond.code yX0_enter cX0_enter 4 none, Cond.fieldLink RX0 22 "ShareDisk$Clients" "tag" "[J", Cond.methodLink RX2 46 yX0_setShare, Cond.instanceMethod yX0_setShare, Cond.selects RX0 yX0_setShare yX0_setShare, Cond.code yX0_setShare cX0_setShare 4 none, Cond.fieldLink RX0 15 "ShareDisk$Clients" "sectorCost" "[I"]
def wsX2_client_r2 : List Cond := [Cond.fieldLink RX0 19 "ShareDisk$Clients" "budget" "[I"]
def wsX2_client : List Cond := .code yX2_client cX2_client 4 none :: ((wsX2_client_r1 ++ wsX2_client_r2) ++ wsX20 ++ wsX00 ++ (vx_at0 RX2 33 "java/lang/IllegalArgumentException" ["java/lang/RuntimeException", "java/lang/Exception"]).filter goodWord)
def wsX2_requireThere : List Cond := .code yX2_requireThere cX2_requireThere 2 none :: ([.classLink RX2 31 "java/lang/IllegalArgumentException", .initialized "java/lang/IllegalArgumentException", .fieldLink RX2 10 "ShareDisk" "clients" "LShareDisk$Clients;", .methodLink RX2 27 yX2_isWithin, .static yX2_isWithin, .initialized RX2, .code yX2_isWithin cX2_isWithin 3 (some .boolean), .methodLink RX2 34 yX0_isThere, .instanceMethod yX0_isThere, .selects RX0 yX0_isThere yX0_isThere, .initialized RX0, .code yX0_isThere cX0_isThere 2 (some .boolean), .fieldLink RX0 9 "ShareDisk$Clients" "there" "[Z"] ++ wsX20 ++ wsX00 ++ (vx_at0 RX2 33 "java/lang/IllegalArgumentException" ["java/lang/RuntimeException", "java/lang/Exception"]).filter goodWord)
def wsX2_endSlice : List Cond := .code yX2_endSlice cX2_endSlice 1 none :: ([.fieldLink RX2 23 "ShareDisk" "sliceOwner" "I", .fieldLink RX2 146 "ShareDisk" "sliceLeft" "I"] ++ wsX20)
def wsX2_gone_r1 : List Cond := [Cond.classLink RX2 58 "java/lang/IllegalStateException", Cond.initialized "java/lang/IllegalStateException", Cond.fieldLink RX2 10 "ShareDisk" "clients" "LShareDisk$Clients;", Cond.fieldLink RX2 23 "ShareDisk" "sliceOwner" "I", Cond.methodLink RX2 50 yX2_requireThere, Cond.instanceMethod yX2_requireThere, Cond.selects RX2 yX2_requireThere yX2_requireThere, Cond.initialized RX2, Cond.code yX2_requireThere cX2_requireThere 2 none, Cond.classLink RX2 31 "java/lang/IllegalArgumentException", Cond.initialized "java/lang/IllegalArgumentException", Cond.methodLink RX2 27 yX2_isWithin, Cond.static yX2_isWithin, Cond.code yX2_isWithin cX2_isWithin 3 (some .boolean), Cond.methodLink RX2 34 yX0_isThere, Cond.instanceMethod yX0_isThere, Cond.selects RX0 yX0_isThere yX0_isThere, Cond.initialized RX0, Cond.code yX0_isThere cX0_isThere 2 (some .boolean), Cond.fieldLink RX0 9 "ShareDisk$Clients" "there" "[Z", Cond.methodLink RX2 54 yX0_waitingOf, Cond.instanceMethod yX0_waitingOf, Cond.selects RX0 yX0_waitingOf yX0_waitingOf, Cond.code yX0_waitingOf cX0_waitingOf 2 (some .int)]
def wsX2_gone_r2 : List Cond := [Cond.fieldLink RX0 26 "ShareDisk$Clients" "waiting" "[I", Cond.methodLink RX2 61 yX0_leave, Cond.instanceMethod yX0_leave, Cond.selects RX0 yX0_leave yX0_leave, Cond.code yX0_leave cX0_leave 2 none, Cond.fieldLink RX0 29 "ShareDisk$Clients" "sectors" "[I", Cond.methodLink RX2 64 yX2_endSlice, Cond.instanceMethod yX2_endSlice, Cond.selects RX2 yX2_endSlice yX2_endSlice, Cond.code yX2_endSlice cX2_endSlice 1 none, Cond.fieldLink RX2 146 "ShareDisk" "sliceLeft" "I"]
def wsX2_gone : List Cond := .code yX2_gone cX2_gone 2 none :: ((wsX2_gone_r1 ++ wsX2_gone_r2) ++ wsX20 ++ wsX00 ++ (vx_at0 RX2 60 "java/lang/IllegalStateException" ["java/lang/RuntimeException", "java/lang/Exception"]).filter goodWord ++ (vx_at0 RX2 33 "java/lang/IllegalArgumentException" ["java/lang/RuntimeException", "java/lang/Exception"]).filter goodWord)
def wsX2_areOnDisk : List Cond := .code yX2_areOnDisk cX2_areOnDisk 2 (some .boolean) :: ([.constant RX2 151 (100000), .methodLink RX2 27 yX2_isWithin, .static yX2_isWithin, .initialized RX2, .code yX2_isWithin cX2_isWithin 3 (some .boolean)])
def wsX2_submit_r1 : List Cond := [Cond.classLink RX2 31 "java/lang/IllegalArgumentException", Cond.initialized "java/lang/IllegalArgumentException", Cond.constant RX2 71 (1000000), Cond.fieldLink RX2 10 "ShareDisk" "clients" "LShareDisk$Clients;", Cond.fieldLink RX2 19 "ShareDisk" "requests" "LShareDisk$Requests;", Cond.fieldLink RX2 38 "ShareDisk" "systemTag" "J", Cond.fieldLink RX2 79 "ShareDisk" "clock" "J", Cond.methodLink RX2 50 yX2_requireThere, Cond.instanceMethod yX2_requireThere, Cond.selects RX2 yX2_requireThere yX2_requireThere, Cond.initialized RX2, Cond.code yX2_requireThere cX2_requireThere 2 none, Cond.methodLink RX2 27 yX2_isWithin, Cond.static yX2_isWithin, Cond.code yX2_isWithin cX2_isWithin 3 (some .boolean), Cond.methodLink RX2 34 yX0_isThere, Cond.instanceMethod yX0_isThere, Cond.selects RX0 yX0_isThere yX0_isThere, Cond.initialized RX0, Cond.code yX0_isThere cX0_isThere 2 (some .boolean), Cond.fieldLink RX0 9 "ShareDisk$Clients" "there" "[Z", Cond.methodLink RX2 67 yX2_areOnDisk, Cond.static yX2_areOnDisk, Cond.code yX2_areOnDisk cX2_areOnDisk 2 (some .boolean)]
def wsX2_submit_r2 : List Cond := [Cond.constant RX2 151 (100000), Cond.methodLink RX2 54 yX0_waitingOf, Cond.instanceMethod yX0_waitingOf, Cond.selects RX0 yX0_waitingOf yX0_waitingOf, Cond.code yX0_waitingOf cX0_waitingOf 2 (some .int), Cond.fieldLink RX0 26 "ShareDisk$Clients" "waiting" "[I", Cond.methodLink RX2 72 yX1_isFull, Cond.instanceMethod yX1_isFull, Cond.selects RX1 yX1_isFull yX1_isFull, Cond.initialized RX1, Cond.code yX1_isFull cX1_isFull 1 (some .boolean), Cond.fieldLink RX1 41 "ShareDisk$Requests" "tickets" "I", Cond.methodLink RX2 76 yX0_noteRequest, Cond.instanceMethod yX0_noteRequest, Cond.selects RX0 yX0_noteRequest yX0_noteRequest, Cond.code yX0_noteRequest cX0_noteRequest 4 none, Cond.fieldLink RX0 22 "ShareDisk$Clients" "tag" "[J", Cond.methodLink RX0 37 Lib.MathLoose.max_long.x, Cond.static Lib.MathLoose.max_long.x, Cond.initialized "java/lang/Math", Cond.code Lib.MathLoose.max_long.x Lib.MathLoose.max_long.code 4 (some .long), Cond.methodLink RX0 43 yX0_forgetLead, Cond.instanceMethod yX0_forgetLead, Cond.selects RX0 yX0_forgetLead yX0_forgetLead]
def wsX2_submit_r3 : List Cond := [Cond.code yX0_forgetLead cX0_forgetLead 3 none, Cond.fieldLink RX0 34 "ShareDisk$Clients" "lead" "[[J", Cond.methodLink RX2 82 yX1_add, Cond.instanceMethod yX1_add, Cond.selects RX1 yX1_add yX1_add, Cond.code yX1_add cX1_add 9 (some .int), Cond.fieldLink RX1 9 "ShareDisk$Requests" "owner" "[I", Cond.fieldLink RX1 15 "ShareDisk$Requests" "write" "[Z", Cond.fieldLink RX1 19 "ShareDisk$Requests" "first" "[I", Cond.fieldLink RX1 22 "ShareDisk$Requests" "size" "[I", Cond.fieldLink RX1 25 "ShareDisk$Requests" "deadline" "[J", Cond.fieldLink RX1 29 "ShareDisk$Requests" "waits" "[Z", Cond.fieldLink RX1 32 "ShareDisk$Requests" "blockers" "[I", Cond.methodLink RX1 51 yX1_mustKeepOrder, Cond.instanceMethod yX1_mustKeepOrder, Cond.selects RX1 yX1_mustKeepOrder yX1_mustKeepOrder, Cond.code yX1_mustKeepOrder cX1_mustKeepOrder 3 (some .boolean)]
def wsX2_submit : List Cond := .code yX2_submit cX2_submit 6 (some .int) :: ((wsX2_submit_r1 ++ (wsX2_submit_r2 ++ wsX2_submit_r3)) ++ wsX20 ++ wsX00 ++ wsX10 ++ (vx_at0 RX2 33 "java/lang/IllegalArgumentException" ["java/lang/RuntimeException", "java/lang/Exception"]).filter goodWord)
def wsX2_moveHead : List Cond := .code yX2_moveHead cX2_moveHead 4 none :: ([.fieldLink RX2 97 "ShareDisk" "head" "I", .methodLink RX2 183 Lib.Math.abs.name, .static Lib.Math.abs.name, .initialized "java/lang/Math", .code Lib.Math.abs.name Lib.Math.abs.code 1 (some .int), .fieldLink RX2 143 "ShareDisk" "passedOver" "J", .fieldLink RX2 79 "ShareDisk" "clock" "J"] ++ wsX20)
def wsX2_takeFromSlice : List Cond := .code yX2_takeFromSlice cX2_takeFromSlice 2 none :: ([.fieldLink RX2 146 "ShareDisk" "sliceLeft" "I", .fieldLink RX2 10 "ShareDisk" "clients" "LShareDisk$Clients;", .fieldLink RX2 23 "ShareDisk" "sliceOwner" "I", .methodLink RX2 54 yX0_waitingOf, .instanceMethod yX0_waitingOf, .selects RX0 yX0_waitingOf yX0_waitingOf, .initialized RX0, .code yX0_waitingOf cX0_waitingOf 2 (some .int), .fieldLink RX0 26 "ShareDisk$Clients" "waiting" "[I", .methodLink RX2 64 yX2_endSlice, .instanceMethod yX2_endSlice, .selects RX2 yX2_endSlice yX2_endSlice, .initialized RX2, .code yX2_endSlice cX2_endSlice 1 none] ++ wsX20 ++ wsX00)
def wsX2_serve_r1 : List Cond := [Cond.fieldLink RX2 19 "ShareDisk" "requests" "LShareDisk$Requests;", Cond.fieldLink RX2 10 "ShareDisk" "clients" "LShareDisk$Clients;", Cond.fieldLink RX2 23 "ShareDisk" "sliceOwner" "I", Cond.fieldLink RX2 38 "ShareDisk" "systemTag" "J", Cond.methodLink RX2 158 yX1_ownerOf, Cond.instanceMethod yX1_ownerOf, Cond.selects RX1 yX1_ownerOf yX1_ownerOf, Cond.initialized RX1, Cond.code yX1_ownerOf cX1_ownerOf 2 (some .int), Cond.fieldLink RX1 9 "ShareDisk$Requests" "owner" "[I", Cond.methodLink RX2 161 yX1_sizeOf, Cond.instanceMethod yX1_sizeOf, Cond.selects RX1 yX1_sizeOf yX1_sizeOf, Cond.code yX1_sizeOf cX1_sizeOf 2 (some .int), Cond.fieldLink RX1 22 "ShareDisk$Requests" "size" "[I", Cond.methodLink RX2 164 yX1_firstOf, Cond.instanceMethod yX1_firstOf, Cond.selects RX1 yX1_firstOf yX1_firstOf, Cond.code yX1_firstOf cX1_firstOf 2 (some .int), Cond.fieldLink RX1 19 "ShareDisk$Requests" "first" "[I", Cond.methodLink RX2 167 yX2_moveHead, Cond.instanceMethod yX2_moveHead, Cond.selects RX2 yX2_moveHead yX2_moveHead, Cond.initialized RX2]
def wsX2_serve_r2 : List Cond := [Cond.code yX2_moveHead cX2_moveHead 4 none, Cond.fieldLink RX2 97 "ShareDisk" "head" "I", Cond.methodLink RX2 183 Lib.Math.abs.name, Cond.static Lib.Math.abs.name, Cond.initialized "java/lang/Math", Cond.code Lib.Math.abs.name Lib.Math.abs.code 1 (some .int), Cond.fieldLink RX2 143 "ShareDisk" "passedOver" "J", Cond.fieldLink RX2 79 "ShareDisk" "clock" "J", Cond.methodLink RX2 170 yX1_markServed, Cond.instanceMethod yX1_markServed, Cond.selects RX1 yX1_markServed yX1_markServed, Cond.code yX1_markServed cX1_markServed 4 none, Cond.fieldLink RX1 29 "ShareDisk$Requests" "waits" "[Z", Cond.fieldLink RX1 35 "ShareDisk$Requests" "servedHow" "[I", Cond.fieldLink RX1 38 "ShareDisk$Requests" "servedOrder" "[I", Cond.fieldLink RX1 45 "ShareDisk$Requests" "served" "I", Cond.fieldLink RX1 48 "ShareDisk$Requests" "urgent" "I", Cond.fieldLink RX1 41 "ShareDisk$Requests" "tickets" "I", Cond.fieldLink RX1 32 "ShareDisk$Requests" "blockers" "[I", Cond.methodLink RX1 51 yX1_mustKeepOrder, Cond.instanceMethod yX1_mustKeepOrder, Cond.selects RX1 yX1_mustKeepOrder yX1_mustKeepOrder, Cond.code yX1_mustKeepOrder cX1_mustKeepOrder 3 (some .boolean), Cond.fieldLink RX1 15 "ShareDisk$Requests" "write" "[Z"]
def wsX2_serve_r3 : List Cond := [Cond.methodLink RX2 173 yX0_noteService, Cond.instanceMethod yX0_noteService, Cond.selects RX0 yX0_noteService yX0_noteService, Cond.initialized RX0, Cond.code yX0_noteService cX0_noteService 6 none, Cond.fieldLink RX0 15 "ShareDisk$Clients" "sectorCost" "[I", Cond.fieldLink RX0 22 "ShareDisk$Clients" "tag" "[J", Cond.fieldLink RX0 29 "ShareDisk$Clients" "sectors" "[I", Cond.fieldLink RX0 26 "ShareDisk$Clients" "waiting" "[I", Cond.fieldLink RX0 34 "ShareDisk$Clients" "lead" "[[J", Cond.methodLink RX2 176 yX2_takeFromSlice, Cond.instanceMethod yX2_takeFromSlice, Cond.selects RX2 yX2_takeFromSlice yX2_takeFromSlice, Cond.code yX2_takeFromSlice cX2_takeFromSlice 2 none, Cond.fieldLink RX2 146 "ShareDisk" "sliceLeft" "I", Cond.methodLink RX2 54 yX0_waitingOf, Cond.instanceMethod yX0_waitingOf, Cond.selects RX0 yX0_waitingOf yX0_waitingOf, Cond.code yX0_waitingOf cX0_waitingOf 2 (some .int), Cond.methodLink RX2 64 yX2_endSlice, Cond.instanceMethod yX2_endSlice, Cond.selects RX2 yX2_endSlice yX2_endSlice, Cond.code yX2_endSlice cX2_endSlice 1 none, Cond.methodLink RX2 134 yX1_waiting]
def wsX2_serve_r4 : List Cond := [Cond.instanceMethod yX1_waiting, Cond.selects RX1 yX1_waiting yX1_waiting, Cond.code yX1_waiting cX1_waiting 1 (some .int), Cond.methodLink RX2 179 yX0_greatestTag, Cond.instanceMethod yX0_greatestTag, Cond.selects RX0 yX0_greatestTag yX0_greatestTag, Cond.code yX0_greatestTag cX0_greatestTag 6 (some .long), Cond.fieldLink RX0 9 "ShareDisk$Clients" "there" "[Z", Cond.methodLink RX0 37 Lib.MathLoose.max_long.x, Cond.static Lib.MathLoose.max_long.x, Cond.code Lib.MathLoose.max_long.x Lib.MathLoose.max_long.code 4 (some .long)]
def wsX2_serve : List Cond := .code yX2_serve cX2_serve 5 none :: ((wsX2_serve_r1 ++ (wsX2_serve_r2 ++ (wsX2_serve_r3 ++ wsX2_serve_r4))) ++ wsX20 ++ wsX10 ++ wsX00)
def wsX2_beginSlice : List Cond := .code yX2_beginSlice cX2_beginSlice 2 none :: ([.fieldLink RX2 10 "ShareDisk" "clients" "LShareDisk$Clients;", .fieldLink RX2 23 "ShareDisk" "sliceOwner" "I", .fieldLink RX2 146 "ShareDisk" "sliceLeft" "I", .fieldLink RX2 38 "ShareDisk" "systemTag" "J", .methodLink RX2 152 yX0_nextInTurn, .instanceMethod yX0_nextInTurn, .selects RX0 yX0_nextInTurn yX0_nextInTurn, .initialized RX0, .code yX0_nextInTurn cX0_nextInTurn 3 (some .int), .fieldLink RX0 26 "ShareDisk$Clients" "waiting" "[I", .fieldLink RX0 22 "ShareDisk$Clients" "tag" "[J", .methodLink RX2 155 yX0_budgetOf, .instanceMethod yX0_budgetOf, .selects RX0 yX0_budgetOf yX0_budgetOf, .code yX0_budgetOf cX0_budgetOf 2 (some .int), .fieldLink RX0 19 "ShareDisk$Clients" "budget" "[I", .methodLink RX2 116 yX0_tagOf, .instanceMethod yX0_tagOf, .selects RX0 yX0_tagOf yX0_tagOf, .code yX0_tagOf cX0_tagOf 2 (some .long)] ++ wsX20 ++ wsX00)
def wsX2_dispatch_r1 : List Cond := [Cond.fieldLink RX2 19 "ShareDisk" "requests" "LShareDisk$Requests;", Cond.fieldLink RX2 79 "ShareDisk" "clock" "J", Cond.fieldLink RX2 23 "ShareDisk" "sliceOwner" "I", Cond.fieldLink RX2 97 "ShareDisk" "head" "I", Cond.methodLink RX2 86 yX1_mostUrgent, Cond.instanceMethod yX1_mostUrgent, Cond.selects RX1 yX1_mostUrgent yX1_mostUrgent, Cond.initialized RX1, Cond.code yX1_mostUrgent cX1_mostUrgent 5 (some .int), Cond.fieldLink RX1 41 "ShareDisk$Requests" "tickets" "I", Cond.fieldLink RX1 25 "ShareDisk$Requests" "deadline" "[J", Cond.methodLink RX1 55 yX1_stateOf, Cond.instanceMethod yX1_stateOf, Cond.selects RX1 yX1_stateOf yX1_stateOf, Cond.code yX1_stateOf cX1_stateOf 2 (some .int), Cond.fieldLink RX1 29 "ShareDisk$Requests" "waits" "[Z", Cond.fieldLink RX1 35 "ShareDisk$Requests" "servedHow" "[I", Cond.fieldLink RX1 32 "ShareDisk$Requests" "blockers" "[I", Cond.methodLink RX2 90 yX2_serve, Cond.instanceMethod yX2_serve, Cond.selects RX2 yX2_serve yX2_serve, Cond.initialized RX2, Cond.code yX2_serve cX2_serve 5 none, Cond.fieldLink RX2 10 "ShareDisk" "clients" "LShareDisk$Clients;"]
def wsX2_dispatch_r2 : List Cond := [Cond.fieldLink RX2 38 "ShareDisk" "systemTag" "J", Cond.methodLink RX2 158 yX1_ownerOf, Cond.instanceMethod yX1_ownerOf, Cond.selects RX1 yX1_ownerOf yX1_ownerOf, Cond.code yX1_ownerOf cX1_ownerOf 2 (some .int), Cond.fieldLink RX1 9 "ShareDisk$Requests" "owner" "[I", Cond.methodLink RX2 161 yX1_sizeOf, Cond.instanceMethod yX1_sizeOf, Cond.selects RX1 yX1_sizeOf yX1_sizeOf, Cond.code yX1_sizeOf cX1_sizeOf 2 (some .int), Cond.fieldLink RX1 22 "ShareDisk$Requests" "size" "[I", Cond.methodLink RX2 164 yX1_firstOf, Cond.instanceMethod yX1_firstOf, Cond.selects RX1 yX1_firstOf yX1_firstOf, Cond.code yX1_firstOf cX1_firstOf 2 (some .int), Cond.fieldLink RX1 19 "ShareDisk$Requests" "first" "[I", Cond.methodLink RX2 167 yX2_moveHead, Cond.instanceMethod yX2_moveHead, Cond.selects RX2 yX2_moveHead yX2_moveHead, Cond.code yX2_moveHead cX2_moveHead 4 none, Cond.methodLink RX2 183 Lib.Math.abs.name, Cond.static Lib.Math.abs.name, Cond.initialized "java/lang/Math", Cond.code Lib.Math.abs.name Lib.Math.abs.code 1 (some .int)]
def wsX2_dispatch_r3 : List Cond := [Cond.fieldLink RX2 143 "ShareDisk" "passedOver" "J", Cond.methodLink RX2 170 yX1_markServed, Cond.instanceMethod yX1_markServed, Cond.selects RX1 yX1_markServed yX1_markServed, Cond.code yX1_markServed cX1_markServed 4 none, Cond.fieldLink RX1 38 "ShareDisk$Requests" "servedOrder" "[I", Cond.fieldLink RX1 45 "ShareDisk$Requests" "served" "I", Cond.fieldLink RX1 48 "ShareDisk$Requests" "urgent" "I", Cond.methodLink RX1 51 yX1_mustKeepOrder, Cond.instanceMethod yX1_mustKeepOrder, Cond.selects RX1 yX1_mustKeepOrder yX1_mustKeepOrder, Cond.code yX1_mustKeepOrder cX1_mustKeepOrder 3 (some .boolean), Cond.fieldLink RX1 15 "ShareDisk$Requests" "write" "[Z", Cond.methodLink RX2 173 yX0_noteService, Cond.instanceMethod yX0_noteService, Cond.selects RX0 yX0_noteService yX0_noteService, Cond.initialized RX0, Cond.code yX0_noteService cX0_noteService 6 none, Cond.fieldLink RX0 15 "ShareDisk$Clients" "sectorCost" "[I", Cond.fieldLink RX0 22 "ShareDisk$Clients" "tag" "[J", Cond.fieldLink RX0 29 "ShareDisk$Clients" "sectors" "[I", Cond.fieldLink RX0 26 "ShareDisk$Clients" "waiting" "[I", Cond.fieldLink RX0 34 "ShareDisk$Clients" "lead" "[[J", Cond.methodLink RX2 176 yX2_takeFromSlice]
def wsX2_dispatch_r4 : List Cond := [Cond.instanceMethod yX2_takeFromSlice, Cond.selects RX2 yX2_takeFromSlice yX2_takeFromSlice, Cond.code yX2_takeFromSlice cX2_takeFromSlice 2 none, Cond.fieldLink RX2 146 "ShareDisk" "sliceLeft" "I", Cond.methodLink RX2 54 yX0_waitingOf, Cond.instanceMethod yX0_waitingOf, Cond.selects RX0 yX0_waitingOf yX0_waitingOf, Cond.code yX0_waitingOf cX0_waitingOf 2 (some .int), Cond.methodLink RX2 64 yX2_endSlice, Cond.instanceMethod yX2_endSlice, Cond.selects RX2 yX2_endSlice yX2_endSlice, Cond.code yX2_endSlice cX2_endSlice 1 none, Cond.methodLink RX2 134 yX1_waiting, Cond.instanceMethod yX1_waiting, Cond.selects RX1 yX1_waiting yX1_waiting, Cond.code yX1_waiting cX1_waiting 1 (some .int), Cond.methodLink RX2 179 yX0_greatestTag, Cond.instanceMethod yX0_greatestTag, Cond.selects RX0 yX0_greatestTag yX0_greatestTag, Cond.code yX0_greatestTag cX0_greatestTag 6 (some .long), Cond.fieldLink RX0 9 "ShareDisk$Clients" "there" "[Z", Cond.methodLink RX0 37 Lib.MathLoose.max_long.x, Cond.static Lib.MathLoose.max_long.x, Cond.code Lib.MathLoose.max_long.x Lib.MathLoose.max_long.code 4 (some .long)]
def wsX2_dispatch_r5 : List Cond := [Cond.methodLink RX2 94 yX2_beginSlice, Cond.instanceMethod yX2_beginSlice, Cond.selects RX2 yX2_beginSlice yX2_beginSlice, Cond.code yX2_beginSlice cX2_beginSlice 2 none, Cond.methodLink RX2 152 yX0_nextInTurn, Cond.instanceMethod yX0_nextInTurn, Cond.selects RX0 yX0_nextInTurn yX0_nextInTurn, Cond.code yX0_nextInTurn cX0_nextInTurn 3 (some .int), Cond.methodLink RX2 155 yX0_budgetOf, Cond.instanceMethod yX0_budgetOf, Cond.selects RX0 yX0_budgetOf yX0_budgetOf, Cond.code yX0_budgetOf cX0_budgetOf 2 (some .int), Cond.fieldLink RX0 19 "ShareDisk$Clients" "budget" "[I", Cond.methodLink RX2 116 yX0_tagOf, Cond.instanceMethod yX0_tagOf, Cond.selects RX0 yX0_tagOf yX0_tagOf, Cond.code yX0_tagOf cX0_tagOf 2 (some .long), Cond.methodLink RX2 100 yX1_nextAlong, Cond.instanceMethod yX1_nextAlong, Cond.selects RX1 yX1_nextAlong yX1_nextAlong, Cond.code yX1_nextAlong cX1_nextAlong 5 (some .int), Cond.methodLink RX1 59 yX1_turnOf, Cond.instanceMethod yX1_turnOf, Cond.selects RX1 yX1_turnOf yX1_turnOf]
def wsX2_dispatch_r6 : List Cond := [Cond.code yX1_turnOf cX1_turnOf 3 (some .int), Cond.constant RX1 63 (100000)]
def wsX2_dispatch : List Cond := .code yX2_dispatch cX2_dispatch 3 (some .int) :: ((wsX2_dispatch_r1 ++ (wsX2_dispatch_r2 ++ (wsX2_dispatch_r3 ++ (wsX2_dispatch_r4 ++ (wsX2_dispatch_r5 ++ wsX2_dispatch_r6))))) ++ wsX20 ++ wsX10 ++ wsX00)
def wsX2_pass : List Cond := .code yX2_pass cX2_pass 2 (some .long) :: ([.classLink RX2 31 "java/lang/IllegalArgumentException", .initialized "java/lang/IllegalArgumentException", .constant RX2 71 (1000000), .fieldLink RX2 79 "ShareDisk" "clock" "J", .methodLink RX2 27 yX2_isWithin, .static yX2_isWithin, .initialized RX2, .code yX2_isWithin cX2_isWithin 3 (some .boolean)] ++ wsX20 ++ (vx_at0 RX2 33 "java/lang/IllegalArgumentException" ["java/lang/RuntimeException", "java/lang/Exception"]).filter goodWord)
def wsX2_state : List Cond := .code yX2_state cX2_state 2 (some .int) :: ([.classLink RX2 107 "java/lang/IndexOutOfBoundsException", .initialized "java/lang/IndexOutOfBoundsException", .fieldLink RX2 19 "ShareDisk" "requests" "LShareDisk$Requests;", .methodLink RX2 104 yX1_isTicket, .instanceMethod yX1_isTicket, .selects RX1 yX1_isTicket yX1_isTicket, .initialized RX1, .code yX1_isTicket cX1_isTicket 2 (some .boolean), .fieldLink RX1 41 "ShareDisk$Requests" "tickets" "I", .methodLink RX2 110 yX1_stateOf, .instanceMethod yX1_stateOf, .selects RX1 yX1_stateOf yX1_stateOf, .code yX1_stateOf cX1_stateOf 2 (some .int), .fieldLink RX1 29 "ShareDisk$Requests" "waits" "[Z", .fieldLink RX1 35 "ShareDisk$Requests" "servedHow" "[I", .fieldLink RX1 32 "ShareDisk$Requests" "blockers" "[I"] ++ wsX20 ++ wsX10 ++ (vx_at0 RX2 109 "java/lang/IndexOutOfBoundsException" ["java/lang/RuntimeException", "java/lang/Exception"]).filter goodWord)
def wsX2_order : List Cond := .code yX2_order cX2_order 2 (some .int) :: ([.fieldLink RX2 19 "ShareDisk" "requests" "LShareDisk$Requests;", .methodLink RX2 113 yX1_servedAt, .instanceMethod yX1_servedAt, .selects RX1 yX1_servedAt yX1_servedAt, .initialized RX1, .code yX1_servedAt cX1_servedAt 2 (some .int), .fieldLink RX1 45 "ShareDisk$Requests" "served" "I", .fieldLink RX1 38 "ShareDisk$Requests" "servedOrder" "[I"] ++ wsX20 ++ wsX10)
def wsX2_tag : List Cond := .code yX2_tag cX2_tag 2 (some .long) :: ([.fieldLink RX2 38 "ShareDisk" "systemTag" "J", .fieldLink RX2 10 "ShareDisk" "clients" "LShareDisk$Clients;", .methodLink RX2 50 yX2_requireThere, .instanceMethod yX2_requireThere, .selects RX2 yX2_requireThere yX2_requireThere, .initialized RX2, .code yX2_requireThere cX2_requireThere 2 none, .classLink RX2 31 "java/lang/IllegalArgumentException", .initialized "java/lang/IllegalArgumentException", .methodLink RX2 27 yX2_isWithin, .static yX2_isWithin, .code yX2_isWithin cX2_isWithin 3 (some .boolean), .methodLink RX2 34 yX0_isThere, .instanceMethod yX0_isThere, .selects RX0 yX0_isThere yX0_isThere, .initialized RX0, .code yX0_isThere cX0_isThere 2 (some .boolean), .fieldLink RX0 9 "ShareDisk$Clients" "there" "[Z", .methodLink RX2 116 yX0_tagOf, .instanceMethod yX0_tagOf, .selects RX0 yX0_tagOf yX0_tagOf, .code yX0_tagOf cX0_tagOf 2 (some .long), .fieldLink RX0 22 "ShareDisk$Clients" "tag" "[J"] ++ wsX20 ++ wsX00 ++ (vx_at0 RX2 33 "java/lang/IllegalArgumentException" ["java/lang/RuntimeException", "java/lang/Exception"]).filter goodWord)
def wsX2_lag : List Cond := .code yX2_lag cX2_lag 3 (some .long) :: ([.classLink RX2 31 "java/lang/IllegalArgumentException", .initialized "java/lang/IllegalArgumentException", .fieldLink RX2 10 "ShareDisk" "clients" "LShareDisk$Clients;", .methodLink RX2 50 yX2_requireThere, .instanceMethod yX2_requireThere, .selects RX2 yX2_requireThere yX2_requireThere, .initialized RX2, .code yX2_requireThere cX2_requireThere 2 none, .methodLink RX2 27 yX2_isWithin, .static yX2_isWithin, .code yX2_isWithin cX2_isWithin 3 (some .boolean), .methodLink RX2 34 yX0_isThere, .instanceMethod yX0_isThere, .selects RX0 yX0_isThere yX0_isThere, .initialized RX0, .code yX0_isThere cX0_isThere 2 (some .boolean), .fieldLink RX0 9 "ShareDisk$Clients" "there" "[Z", .methodLink RX2 120 yX0_leadOf, .instanceMethod yX0_leadOf, .selects RX0 yX0_leadOf yX0_leadOf, .code yX0_leadOf cX0_leadOf 3 (some .long), .fieldLink RX0 26 "ShareDisk$Clients" "waiting" "[I", .fieldLink RX0 34 "ShareDisk$Clients" "lead" "[[J"] ++ wsX20 ++ wsX00 ++ (vx_at0 RX2 33 "java/lang/IllegalArgumentException" ["java/lang/RuntimeException", "java/lang/Exception"]).filter goodWord)
def wsX2_countOfDisk_r1 : List Cond := [Cond.fieldLink RX2 10 "ShareDisk" "clients" "LShareDisk$Clients;", Cond.fieldLink RX2 19 "ShareDisk" "requests" "LShareDisk$Requests;", Cond.fieldLink RX2 97 "ShareDisk" "head" "I", Cond.fieldLink RX2 143 "ShareDisk" "passedOver" "J", Cond.fieldLink RX2 23 "ShareDisk" "sliceOwner" "I", Cond.fieldLink RX2 146 "ShareDisk" "sliceLeft" "I", Cond.constantLong RX2 149 (-1), Cond.methodLink RX2 130 yX0_howMany, Cond.instanceMethod yX0_howMany, Cond.selects RX0 yX0_howMany yX0_howMany, Cond.initialized RX0, Cond.code yX0_howMany cX0_howMany 3 (some .int), Cond.fieldLink RX0 9 "ShareDisk$Clients" "there" "[Z", Cond.methodLink RX2 134 yX1_waiting, Cond.instanceMethod yX1_waiting, Cond.selects RX1 yX1_waiting yX1_waiting, Cond.initialized RX1, Cond.code yX1_waiting cX1_waiting 1 (some .int), Cond.fieldLink RX1 41 "ShareDisk$Requests" "tickets" "I", Cond.fieldLink RX1 45 "ShareDisk$Requests" "served" "I", Cond.methodLink RX2 137 yX1_served, Cond.instanceMethod yX1_served, Cond.selects RX1 yX1_served yX1_served, Cond.code yX1_served cX1_served 1 (some .int)]
def wsX2_countOfDisk_r2 : List Cond := [Cond.methodLink RX2 140 yX1_urgent, Cond.instanceMethod yX1_urgent, Cond.selects RX1 yX1_urgent yX1_urgent, Cond.code yX1_urgent cX1_urgent 1 (some .int), Cond.fieldLink RX1 48 "ShareDisk$Requests" "urgent" "I"]
def wsX2_countOfDisk : List Cond := .code yX2_countOfDisk cX2_countOfDisk 2 (some .long) :: ((wsX2_countOfDisk_r1 ++ wsX2_countOfDisk_r2) ++ wsX20 ++ wsX00 ++ wsX10)
def wsX2_count_r1 : List Cond := [Cond.fieldLink RX2 10 "ShareDisk" "clients" "LShareDisk$Clients;", Cond.methodLink RX2 27 yX2_isWithin, Cond.static yX2_isWithin, Cond.initialized RX2, Cond.code yX2_isWithin cX2_isWithin 3 (some .boolean), Cond.methodLink RX2 124 yX0_sectorsOf, Cond.instanceMethod yX0_sectorsOf, Cond.selects RX0 yX0_sectorsOf yX0_sectorsOf, Cond.initialized RX0, Cond.code yX0_sectorsOf cX0_sectorsOf 2 (some .int), Cond.fieldLink RX0 29 "ShareDisk$Clients" "sectors" "[I", Cond.methodLink RX2 54 yX0_waitingOf, Cond.instanceMethod yX0_waitingOf, Cond.selects RX0 yX0_waitingOf yX0_waitingOf, Cond.code yX0_waitingOf cX0_waitingOf 2 (some .int), Cond.fieldLink RX0 26 "ShareDisk$Clients" "waiting" "[I", Cond.methodLink RX2 127 yX2_countOfDisk, Cond.instanceMethod yX2_countOfDisk, Cond.selects RX2 yX2_countOfDisk yX2_countOfDisk, Cond.code yX2_countOfDisk cX2_countOfDisk 2 (some .long), Cond.fieldLink RX2 19 "ShareDisk" "requests" "LShareDisk$Requests;", Cond.fieldLink RX2 97 "ShareDisk" "head" "I", Cond.fieldLink RX2 143 "ShareDisk" "passedOver" "J", Cond.fieldLink RX2 23 "ShareDisk" "sliceOwner" "I"]
def wsX2_count_r2 : List Cond := [Cond.fieldLink RX2 146 "ShareDisk" "sliceLeft" "I", Cond.constantLong RX2 149 (-1), Cond.methodLink RX2 130 yX0_howMany, Cond.instanceMethod yX0_howMany, Cond.selects RX0 yX0_howMany yX0_howMany, Cond.code yX0_howMany cX0_howMany 3 (some .int), Cond.fieldLink RX0 9 "ShareDisk$Clients" "there" "[Z", Cond.methodLink RX2 134 yX1_waiting, Cond.instanceMethod yX1_waiting, Cond.selects RX1 yX1_waiting yX1_waiting, Cond.initialized RX1, Cond.code yX1_waiting cX1_waiting 1 (some .int), Cond.fieldLink RX1 41 "ShareDisk$Requests" "tickets" "I", Cond.fieldLink RX1 45 "ShareDisk$Requests" "served" "I", Cond.methodLink RX2 137 yX1_served, Cond.instanceMethod yX1_served, Cond.selects RX1 yX1_served yX1_served, Cond.code yX1_served cX1_served 1 (some .int), Cond.methodLink RX2 140 yX1_urgent, Cond.instanceMethod yX1_urgent, Cond.selects RX1 yX1_urgent yX1_urgent, Cond.code yX1_urgent cX1_urgent 1 (some .int), Cond.fieldLink RX1 48 "ShareDisk$Requests" "urgent" "I"]
def wsX2_count : List Cond := .code yX2_count cX2_count 2 (some .long) :: ((wsX2_count_r1 ++ wsX2_count_r2) ++ wsX20 ++ wsX00 ++ wsX10)
def wsX3_init : List Cond := .code yX3_init cX3_init 1 none :: ([.methodLink RX3 1 objectInit, .instanceMethod objectInit, .code objectInit ⟨#[0xb1]⟩ 1 none, .arrayClass .boolean, .fieldLink RX3 7 "ShareDiskModel" "there" "[Z", .arrayClass .int, .fieldLink RX3 13 "ShareDiskModel" "weights" "[I", .fieldLink RX3 17 "ShareDiskModel" "budgets" "[I", .arrayClass .long, .fieldLink RX3 20 "ShareDiskModel" "tags" "[J", .fieldLink RX3 24 "ShareDiskModel" "sectors" "[J", .fieldLink RX3 27 "ShareDiskModel" "grown" "[J", .fieldLink RX3 30 "ShareDiskModel" "bases" "[J", .fieldLink RX3 33 "ShareDiskModel" "clientOf" "[I", .fieldLink RX3 36 "ShareDiskModel" "first" "[I", .fieldLink RX3 39 "ShareDiskModel" "counts" "[I", .fieldLink RX3 42 "ShareDiskModel" "order" "[I", .fieldLink RX3 45 "ShareDiskModel" "writes" "[Z", .fieldLink RX3 48 "ShareDiskModel" "done" "[Z", .fieldLink RX3 51 "ShareDiskModel" "urgent" "[Z", .fieldLink RX3 54 "ShareDiskModel" "deadlines" "[J", .fieldLink RX3 57 "ShareDiskModel" "slice" "I"] ++ wsX30)
def wsX3_thrown : List Cond := .code yX3_thrown cX3_thrown 1 (some .int) :: ([.fieldLink RX3 61 "ShareDiskModel" "thrown" "I"] ++ wsX30)
def wsX3_fails : List Cond := .code yX3_fails cX3_fails 3 (some .boolean) :: ([.fieldLink RX3 61 "ShareDiskModel" "thrown" "I"] ++ wsX30)
def wsX3_in : List Cond := .code yX3_in cX3_in 6 (some .boolean) :: ([])
def wsX3_isThere : List Cond := .code yX3_isThere cX3_isThere 2 (some .boolean) :: ([.constantLong RX3 64 (7), .fieldLink RX3 7 "ShareDiskModel" "there" "[Z", .methodLink RX3 66 yX3_in, .static yX3_in, .initialized RX3, .code yX3_in cX3_in 6 (some .boolean)] ++ wsX30)
def wsX3_waiting : List Cond := .code yX3_waiting cX3_waiting 4 (some .int) :: ([.fieldLink RX3 70 "ShareDiskModel" "tickets" "I", .fieldLink RX3 48 "ShareDiskModel" "done" "[Z", .fieldLink RX3 33 "ShareDiskModel" "clientOf" "[I"] ++ wsX30)
def wsX3_client : List Cond := .code yX3_client cX3_client 4 none :: ([.constantLong RX3 64 (7), .constantLong RX3 73 (12), .constantLong RX3 75 (1000), .fieldLink RX3 7 "ShareDiskModel" "there" "[Z", .fieldLink RX3 20 "ShareDiskModel" "tags" "[J", .fieldLink RX3 24 "ShareDiskModel" "sectors" "[J", .fieldLink RX3 13 "ShareDiskModel" "weights" "[I", .fieldLink RX3 17 "ShareDiskModel" "budgets" "[I", .methodLink RX3 66 yX3_in, .static yX3_in, .initialized RX3, .code yX3_in cX3_in 6 (some .boolean), .methodLink RX3 77 yX3_fails, .instanceMethod yX3_fails, .selects RX3 yX3_fails yX3_fails, .code yX3_fails cX3_fails 3 (some .boolean), .fieldLink RX3 61 "ShareDiskModel" "thrown" "I"] ++ wsX30)
def wsX3_end : List Cond := .code yX3_end cX3_end 1 none :: ([.fieldLink RX3 57 "ShareDiskModel" "slice" "I", .fieldLink RX3 92 "ShareDiskModel" "left" "I"] ++ wsX30)
def wsX3_gone_r1 : List Cond := [Cond.fieldLink RX3 7 "ShareDiskModel" "there" "[Z", Cond.fieldLink RX3 24 "ShareDiskModel" "sectors" "[J", Cond.fieldLink RX3 57 "ShareDiskModel" "slice" "I", Cond.methodLink RX3 81 yX3_isThere, Cond.instanceMethod yX3_isThere, Cond.selects RX3 yX3_isThere yX3_isThere, Cond.initialized RX3, Cond.code yX3_isThere cX3_isThere 2 (some .boolean), Cond.constantLong RX3 64 (7), Cond.methodLink RX3 66 yX3_in, Cond.static yX3_in, Cond.code yX3_in cX3_in 6 (some .boolean), Cond.methodLink RX3 85 yX3_waiting, Cond.instanceMethod yX3_waiting, Cond.selects RX3 yX3_waiting yX3_waiting, Cond.code yX3_waiting cX3_waiting 4 (some .int), Cond.fieldLink RX3 70 "ShareDiskModel" "tickets" "I", Cond.fieldLink RX3 48 "ShareDiskModel" "done" "[Z", Cond.fieldLink RX3 33 "ShareDiskModel" "clientOf" "[I", Cond.methodLink RX3 77 yX3_fails, Cond.instanceMethod yX3_fails, Cond.selects RX3 yX3_fails yX3_fails, Cond.code yX3_fails cX3_fails 3 (some .boolean), Cond.fieldLink RX3 61 "ShareDiskModel" "thrown" "I"]
def wsX3_gone_r2 : List Cond := [Cond.methodLink RX3 89 yX3_end, Cond.instanceMethod yX3_end, Cond.selects RX3 yX3_end yX3_end, Cond.code yX3_end cX3_end 1 none, Cond.fieldLink RX3 92 "ShareDiskModel" "left" "I"]
def wsX3_gone : List Cond := .code yX3_gone cX3_gone 2 none :: ((wsX3_gone_r1 ++ wsX3_gone_r2) ++ wsX30)
def wsX3_begin : List Cond := .code yX3_begin cX3_begin 3 none :: ([.fieldLink RX3 20 "ShareDiskModel" "tags" "[J", .fieldLink RX3 30 "ShareDiskModel" "bases" "[J", .fieldLink RX3 27 "ShareDiskModel" "grown" "[J"] ++ wsX30)
def wsX3_submit_r1 : List Cond := [Cond.constantLong RX3 95 (99999), Cond.constantLong RX3 97 (64), Cond.constantLong RX3 99 (100000), Cond.constantLong RX3 101 (1000000), Cond.fieldLink RX3 70 "ShareDiskModel" "tickets" "I", Cond.fieldLink RX3 33 "ShareDiskModel" "clientOf" "[I", Cond.fieldLink RX3 36 "ShareDiskModel" "first" "[I", Cond.fieldLink RX3 39 "ShareDiskModel" "counts" "[I", Cond.fieldLink RX3 45 "ShareDiskModel" "writes" "[Z", Cond.fieldLink RX3 54 "ShareDiskModel" "deadlines" "[J", Cond.fieldLink RX3 107 "ShareDiskModel" "clock" "J", Cond.methodLink RX3 81 yX3_isThere, Cond.instanceMethod yX3_isThere, Cond.selects RX3 yX3_isThere yX3_isThere, Cond.initialized RX3, Cond.code yX3_isThere cX3_isThere 2 (some .boolean), Cond.constantLong RX3 64 (7), Cond.fieldLink RX3 7 "ShareDiskModel" "there" "[Z", Cond.methodLink RX3 66 yX3_in, Cond.static yX3_in, Cond.code yX3_in cX3_in 6 (some .boolean), Cond.methodLink RX3 77 yX3_fails, Cond.instanceMethod yX3_fails, Cond.selects RX3 yX3_fails yX3_fails]
def wsX3_submit_r2 : List Cond := [Cond.code yX3_fails cX3_fails 3 (some .boolean), Cond.fieldLink RX3 61 "ShareDiskModel" "thrown" "I", Cond.methodLink RX3 85 yX3_waiting, Cond.instanceMethod yX3_waiting, Cond.selects RX3 yX3_waiting yX3_waiting, Cond.code yX3_waiting cX3_waiting 4 (some .int), Cond.fieldLink RX3 48 "ShareDiskModel" "done" "[Z", Cond.methodLink RX3 103 yX3_begin, Cond.instanceMethod yX3_begin, Cond.selects RX3 yX3_begin yX3_begin, Cond.code yX3_begin cX3_begin 3 none, Cond.fieldLink RX3 20 "ShareDiskModel" "tags" "[J", Cond.fieldLink RX3 30 "ShareDiskModel" "bases" "[J", Cond.fieldLink RX3 27 "ShareDiskModel" "grown" "[J"]
def wsX3_submit : List Cond := .code yX3_submit cX3_submit 9 (some .int) :: ((wsX3_submit_r1 ++ wsX3_submit_r2) ++ wsX30)
def wsX3_isBlocked : List Cond := .code yX3_isBlocked cX3_isBlocked 5 (some .boolean) :: ([.fieldLink RX3 36 "ShareDiskModel" "first" "[I", .fieldLink RX3 39 "ShareDiskModel" "counts" "[I", .fieldLink RX3 48 "ShareDiskModel" "done" "[Z", .fieldLink RX3 33 "ShareDiskModel" "clientOf" "[I", .fieldLink RX3 45 "ShareDiskModel" "writes" "[Z"] ++ wsX30)
def wsX3_canGo : List Cond := .code yX3_canGo cX3_canGo 2 (some .boolean) :: ([.fieldLink RX3 48 "ShareDiskModel" "done" "[Z", .methodLink RX3 111 yX3_isBlocked, .instanceMethod yX3_isBlocked, .selects RX3 yX3_isBlocked yX3_isBlocked, .initialized RX3, .code yX3_isBlocked cX3_isBlocked 5 (some .boolean), .fieldLink RX3 36 "ShareDiskModel" "first" "[I", .fieldLink RX3 39 "ShareDiskModel" "counts" "[I", .fieldLink RX3 33 "ShareDiskModel" "clientOf" "[I", .fieldLink RX3 45 "ShareDiskModel" "writes" "[Z"] ++ wsX30)
def wsX3_due : List Cond := .code yX3_due cX3_due 3 (some .int) :: ([.fieldLink RX3 70 "ShareDiskModel" "tickets" "I", .fieldLink RX3 54 "ShareDiskModel" "deadlines" "[J", .fieldLink RX3 107 "ShareDiskModel" "clock" "J", .methodLink RX3 114 yX3_canGo, .instanceMethod yX3_canGo, .selects RX3 yX3_canGo yX3_canGo, .initialized RX3, .code yX3_canGo cX3_canGo 2 (some .boolean), .fieldLink RX3 48 "ShareDiskModel" "done" "[Z", .methodLink RX3 111 yX3_isBlocked, .instanceMethod yX3_isBlocked, .selects RX3 yX3_isBlocked yX3_isBlocked, .code yX3_isBlocked cX3_isBlocked 5 (some .boolean), .fieldLink RX3 36 "ShareDiskModel" "first" "[I", .fieldLink RX3 39 "ShareDiskModel" "counts" "[I", .fieldLink RX3 33 "ShareDiskModel" "clientOf" "[I", .fieldLink RX3 45 "ShareDiskModel" "writes" "[Z"] ++ wsX30)
def wsX3_choose : List Cond := .code yX3_choose cX3_choose 2 none :: ([.fieldLink RX3 57 "ShareDiskModel" "slice" "I", .fieldLink RX3 20 "ShareDiskModel" "tags" "[J", .fieldLink RX3 17 "ShareDiskModel" "budgets" "[I", .fieldLink RX3 92 "ShareDiskModel" "left" "I", .methodLink RX3 85 yX3_waiting, .instanceMethod yX3_waiting, .selects RX3 yX3_waiting yX3_waiting, .initialized RX3, .code yX3_waiting cX3_waiting 4 (some .int), .fieldLink RX3 70 "ShareDiskModel" "tickets" "I", .fieldLink RX3 48 "ShareDiskModel" "done" "[Z", .fieldLink RX3 33 "ShareDiskModel" "clientOf" "[I"] ++ wsX30)
def wsX3_ahead : List Cond := .code yX3_ahead cX3_ahead 2 (some .int) :: ([.fieldLink RX3 36 "ShareDiskModel" "first" "[I", .fieldLink RX3 120 "ShareDiskModel" "head" "I", .constant RX3 123 (100000)] ++ wsX30)
def wsX3_next : List Cond := .code yX3_next cX3_next 3 (some .int) :: ([.fieldLink RX3 70 "ShareDiskModel" "tickets" "I", .fieldLink RX3 33 "ShareDiskModel" "clientOf" "[I", .fieldLink RX3 57 "ShareDiskModel" "slice" "I", .methodLink RX3 114 yX3_canGo, .instanceMethod yX3_canGo, .selects RX3 yX3_canGo yX3_canGo, .initialized RX3, .code yX3_canGo cX3_canGo 2 (some .boolean), .fieldLink RX3 48 "ShareDiskModel" "done" "[Z", .methodLink RX3 111 yX3_isBlocked, .instanceMethod yX3_isBlocked, .selects RX3 yX3_isBlocked yX3_isBlocked, .code yX3_isBlocked cX3_isBlocked 5 (some .boolean), .fieldLink RX3 36 "ShareDiskModel" "first" "[I", .fieldLink RX3 39 "ShareDiskModel" "counts" "[I", .fieldLink RX3 45 "ShareDiskModel" "writes" "[Z", .methodLink RX3 117 yX3_ahead, .instanceMethod yX3_ahead, .selects RX3 yX3_ahead yX3_ahead, .code yX3_ahead cX3_ahead 2 (some .int), .fieldLink RX3 120 "ShareDiskModel" "head" "I", .constant RX3 123 (100000)] ++ wsX30)
def wsX3_serve_r1 : List Cond := [Cond.fieldLink RX3 33 "ShareDiskModel" "clientOf" "[I", Cond.fieldLink RX3 36 "ShareDiskModel" "first" "[I", Cond.fieldLink RX3 120 "ShareDiskModel" "head" "I", Cond.fieldLink RX3 141 "ShareDiskModel" "passed" "J", Cond.fieldLink RX3 107 "ShareDiskModel" "clock" "J", Cond.fieldLink RX3 39 "ShareDiskModel" "counts" "[I", Cond.fieldLink RX3 48 "ShareDiskModel" "done" "[Z", Cond.fieldLink RX3 51 "ShareDiskModel" "urgent" "[Z", Cond.fieldLink RX3 144 "ShareDiskModel" "urgents" "I", Cond.fieldLink RX3 42 "ShareDiskModel" "order" "[I", Cond.fieldLink RX3 124 "ShareDiskModel" "served" "I", Cond.constantLong RX3 147 (27720), Cond.fieldLink RX3 13 "ShareDiskModel" "weights" "[I", Cond.fieldLink RX3 20 "ShareDiskModel" "tags" "[J", Cond.fieldLink RX3 27 "ShareDiskModel" "grown" "[J", Cond.fieldLink RX3 24 "ShareDiskModel" "sectors" "[J", Cond.fieldLink RX3 57 "ShareDiskModel" "slice" "I", Cond.fieldLink RX3 92 "ShareDiskModel" "left" "I", Cond.fieldLink RX3 70 "ShareDiskModel" "tickets" "I", Cond.fieldLink RX3 7 "ShareDiskModel" "there" "[Z", Cond.methodLink RX3 85 yX3_waiting, Cond.instanceMethod yX3_waiting, Cond.selects RX3 yX3_waiting yX3_waiting, Cond.initialized RX3]
def wsX3_serve_r2 : List Cond := [Cond.code yX3_waiting cX3_waiting 4 (some .int), Cond.methodLink RX3 89 yX3_end, Cond.instanceMethod yX3_end, Cond.selects RX3 yX3_end yX3_end, Cond.code yX3_end cX3_end 1 none]
def wsX3_serve : List Cond := .code yX3_serve cX3_serve 8 none :: ((wsX3_serve_r1 ++ wsX3_serve_r2) ++ wsX30)
def wsX3_dispatch_r1 : List Cond := [Cond.fieldLink RX3 61 "ShareDiskModel" "thrown" "I", Cond.fieldLink RX3 124 "ShareDiskModel" "served" "I", Cond.fieldLink RX3 70 "ShareDiskModel" "tickets" "I", Cond.fieldLink RX3 57 "ShareDiskModel" "slice" "I", Cond.methodLink RX3 127 yX3_due, Cond.instanceMethod yX3_due, Cond.selects RX3 yX3_due yX3_due, Cond.initialized RX3, Cond.code yX3_due cX3_due 3 (some .int), Cond.fieldLink RX3 54 "ShareDiskModel" "deadlines" "[J", Cond.fieldLink RX3 107 "ShareDiskModel" "clock" "J", Cond.methodLink RX3 114 yX3_canGo, Cond.instanceMethod yX3_canGo, Cond.selects RX3 yX3_canGo yX3_canGo, Cond.code yX3_canGo cX3_canGo 2 (some .boolean), Cond.fieldLink RX3 48 "ShareDiskModel" "done" "[Z", Cond.methodLink RX3 111 yX3_isBlocked, Cond.instanceMethod yX3_isBlocked, Cond.selects RX3 yX3_isBlocked yX3_isBlocked, Cond.code yX3_isBlocked cX3_isBlocked 5 (some .boolean), Cond.fieldLink RX3 36 "ShareDiskModel" "first" "[I", Cond.fieldLink RX3 39 "ShareDiskModel" "counts" "[I", Cond.fieldLink RX3 33 "ShareDiskModel" "clientOf" "[I", Cond.fieldLink RX3 45 "ShareDiskModel" "writes" "[Z"]
def wsX3_dispatch_r2 : List Cond := [Cond.methodLink RX3 131 yX3_choose, Cond.instanceMethod yX3_choose, Cond.selects RX3 yX3_choose yX3_choose, Cond.code yX3_choose cX3_choose 2 none, Cond.fieldLink RX3 20 "ShareDiskModel" "tags" "[J", Cond.fieldLink RX3 17 "ShareDiskModel" "budgets" "[I", Cond.fieldLink RX3 92 "ShareDiskModel" "left" "I", Cond.methodLink RX3 85 yX3_waiting, Cond.instanceMethod yX3_waiting, Cond.selects RX3 yX3_waiting yX3_waiting, Cond.code yX3_waiting cX3_waiting 4 (some .int), Cond.methodLink RX3 134 yX3_next, Cond.instanceMethod yX3_next, Cond.selects RX3 yX3_next yX3_next, Cond.code yX3_next cX3_next 3 (some .int), Cond.methodLink RX3 117 yX3_ahead, Cond.instanceMethod yX3_ahead, Cond.selects RX3 yX3_ahead yX3_ahead, Cond.code yX3_ahead cX3_ahead 2 (some .int), Cond.fieldLink RX3 120 "ShareDiskModel" "head" "I", Cond.constant RX3 123 (100000), Cond.methodLink RX3 137 yX3_serve, Cond.instanceMethod yX3_serve, Cond.selects RX3 yX3_serve yX3_serve]
def wsX3_dispatch_r3 : List Cond := [Cond.code yX3_serve cX3_serve 8 none, Cond.fieldLink RX3 141 "ShareDiskModel" "passed" "J", Cond.fieldLink RX3 51 "ShareDiskModel" "urgent" "[Z", Cond.fieldLink RX3 144 "ShareDiskModel" "urgents" "I", Cond.fieldLink RX3 42 "ShareDiskModel" "order" "[I", Cond.constantLong RX3 147 (27720), Cond.fieldLink RX3 13 "ShareDiskModel" "weights" "[I", Cond.fieldLink RX3 27 "ShareDiskModel" "grown" "[J", Cond.fieldLink RX3 24 "ShareDiskModel" "sectors" "[J", Cond.fieldLink RX3 7 "ShareDiskModel" "there" "[Z", Cond.methodLink RX3 89 yX3_end, Cond.instanceMethod yX3_end, Cond.selects RX3 yX3_end yX3_end, Cond.code yX3_end cX3_end 1 none]
def wsX3_dispatch : List Cond := .code yX3_dispatch cX3_dispatch 3 (some .int) :: ((wsX3_dispatch_r1 ++ (wsX3_dispatch_r2 ++ wsX3_dispatch_r3)) ++ wsX30)
def wsX3_pass : List Cond := .code yX3_pass cX3_pass 2 (some .long) :: ([.constantLong RX3 101 (1000000), .fieldLink RX3 107 "ShareDiskModel" "clock" "J", .methodLink RX3 66 yX3_in, .static yX3_in, .initialized RX3, .code yX3_in cX3_in 6 (some .boolean), .methodLink RX3 77 yX3_fails, .instanceMethod yX3_fails, .selects RX3 yX3_fails yX3_fails, .code yX3_fails cX3_fails 3 (some .boolean), .fieldLink RX3 61 "ShareDiskModel" "thrown" "I"] ++ wsX30)
def wsX3_state : List Cond := .code yX3_state cX3_state 2 (some .int) :: ([.fieldLink RX3 70 "ShareDiskModel" "tickets" "I", .fieldLink RX3 48 "ShareDiskModel" "done" "[Z", .fieldLink RX3 51 "ShareDiskModel" "urgent" "[Z", .methodLink RX3 66 yX3_in, .static yX3_in, .initialized RX3, .code yX3_in cX3_in 6 (some .boolean), .methodLink RX3 77 yX3_fails, .instanceMethod yX3_fails, .selects RX3 yX3_fails yX3_fails, .code yX3_fails cX3_fails 3 (some .boolean), .fieldLink RX3 61 "ShareDiskModel" "thrown" "I", .methodLink RX3 111 yX3_isBlocked, .instanceMethod yX3_isBlocked, .selects RX3 yX3_isBlocked yX3_isBlocked, .code yX3_isBlocked cX3_isBlocked 5 (some .boolean), .fieldLink RX3 36 "ShareDiskModel" "first" "[I", .fieldLink RX3 39 "ShareDiskModel" "counts" "[I", .fieldLink RX3 33 "ShareDiskModel" "clientOf" "[I", .fieldLink RX3 45 "ShareDiskModel" "writes" "[Z"] ++ wsX30)
def wsX3_order : List Cond := .code yX3_order cX3_order 2 (some .int) :: ([.fieldLink RX3 61 "ShareDiskModel" "thrown" "I", .fieldLink RX3 124 "ShareDiskModel" "served" "I", .fieldLink RX3 42 "ShareDiskModel" "order" "[I", .methodLink RX3 66 yX3_in, .static yX3_in, .initialized RX3, .code yX3_in cX3_in 6 (some .boolean)] ++ wsX30)
def wsX3_tag : List Cond := .code yX3_tag cX3_tag 2 (some .long) :: ([.fieldLink RX3 20 "ShareDiskModel" "tags" "[J", .methodLink RX3 81 yX3_isThere, .instanceMethod yX3_isThere, .selects RX3 yX3_isThere yX3_isThere, .initialized RX3, .code yX3_isThere cX3_isThere 2 (some .boolean), .constantLong RX3 64 (7), .fieldLink RX3 7 "ShareDiskModel" "there" "[Z", .methodLink RX3 66 yX3_in, .static yX3_in, .code yX3_in cX3_in 6 (some .boolean), .methodLink RX3 77 yX3_fails, .instanceMethod yX3_fails, .selects RX3 yX3_fails yX3_fails, .code yX3_fails cX3_fails 3 (some .boolean), .fieldLink RX3 61 "ShareDiskModel" "thrown" "I"] ++ wsX30)
def wsX3_lag : List Cond := .code yX3_lag cX3_lag 3 (some .long) :: ([.fieldLink RX3 27 "ShareDiskModel" "grown" "[J", .fieldLink RX3 30 "ShareDiskModel" "bases" "[J", .methodLink RX3 81 yX3_isThere, .instanceMethod yX3_isThere, .selects RX3 yX3_isThere yX3_isThere, .initialized RX3, .code yX3_isThere cX3_isThere 2 (some .boolean), .constantLong RX3 64 (7), .fieldLink RX3 7 "ShareDiskModel" "there" "[Z", .methodLink RX3 66 yX3_in, .static yX3_in, .code yX3_in cX3_in 6 (some .boolean), .methodLink RX3 77 yX3_fails, .instanceMethod yX3_fails, .selects RX3 yX3_fails yX3_fails, .code yX3_fails cX3_fails 3 (some .boolean), .fieldLink RX3 61 "ShareDiskModel" "thrown" "I", .methodLink RX3 85 yX3_waiting, .instanceMethod yX3_waiting, .selects RX3 yX3_waiting yX3_waiting, .code yX3_waiting cX3_waiting 4 (some .int), .fieldLink RX3 70 "ShareDiskModel" "tickets" "I", .fieldLink RX3 48 "ShareDiskModel" "done" "[Z", .fieldLink RX3 33 "ShareDiskModel" "clientOf" "[I"] ++ wsX30)
def wsX3_count_r1 : List Cond := [Cond.fieldLink RX3 61 "ShareDiskModel" "thrown" "I", Cond.fieldLink RX3 7 "ShareDiskModel" "there" "[Z", Cond.fieldLink RX3 70 "ShareDiskModel" "tickets" "I", Cond.fieldLink RX3 124 "ShareDiskModel" "served" "I", Cond.fieldLink RX3 144 "ShareDiskModel" "urgents" "I", Cond.fieldLink RX3 120 "ShareDiskModel" "head" "I", Cond.fieldLink RX3 141 "ShareDiskModel" "passed" "J", Cond.fieldLink RX3 57 "ShareDiskModel" "slice" "I", Cond.fieldLink RX3 92 "ShareDiskModel" "left" "I", Cond.constantLong RX3 149 (8), Cond.constantLong RX3 151 (15), Cond.fieldLink RX3 24 "ShareDiskModel" "sectors" "[J", Cond.constantLong RX3 153 (16), Cond.constantLong RX3 155 (23), Cond.constantLong RX3 157 (-1), Cond.methodLink RX3 66 yX3_in, Cond.static yX3_in, Cond.initialized RX3, Cond.code yX3_in cX3_in 6 (some .boolean), Cond.methodLink RX3 85 yX3_waiting, Cond.instanceMethod yX3_waiting, Cond.selects RX3 yX3_waiting yX3_waiting, Cond.code yX3_waiting cX3_waiting 4 (some .int), Cond.fieldLink RX3 48 "ShareDiskModel" "done" "[Z"]
def wsX3_count_r2 : List Cond := [Cond.fieldLink RX3 33 "ShareDiskModel" "clientOf" "[I"]
def wsX3_count : List Cond := .code yX3_count cX3_count 5 (some .long) :: ((wsX3_count_r1 ++ wsX3_count_r2) ++ wsX30)
def wsJ9_abs_0f7a4 : List Cond := .code yJ9_abs_0f7a4 cJ9_abs_0f7a4 1 (some .int) :: ([])
def wsJ9_max_f86c9 : List Cond := .code yJ9_max_f86c9 cJ9_max_f86c9 4 (some .long) :: ([])
def wsL_client_r1 : List Cond := [Cond.classLink RL 13 "java/lang/IllegalArgumentException", Cond.methodLink RL 7 yX2_client, Cond.instanceMethod yX2_client, Cond.selects RX2 yX2_client yX2_client, Cond.initialized RX2, Cond.code yX2_client cX2_client 4 none, Cond.classLink RX2 31 "java/lang/IllegalArgumentException", Cond.initialized "java/lang/IllegalArgumentException", Cond.fieldLink RX2 10 "ShareDisk" "clients" "LShareDisk$Clients;", Cond.fieldLink RX2 38 "ShareDisk" "systemTag" "J", Cond.methodLink RX2 27 yX2_isWithin, Cond.static yX2_isWithin, Cond.code yX2_isWithin cX2_isWithin 3 (some .boolean), Cond.methodLink RX2 34 yX0_isThere, Cond.instanceMethod yX0_isThere, Cond.selects RX0 yX0_isThere yX0_isThere, Cond.initialized RX0, Cond.code yX0_isThere cX0_isThere 2 (some .boolean), Cond.fieldLink RX0 9 "ShareDisk$Clients" "there" "[Z", Cond.methodLink RX2 42 yX0_enter, Cond.instanceMethod yX0_enter, Cond.selects RX0 yX0_enter yX0_enter, Cond.code yX0_enter cX0_enter 4 none, Cond.fieldLink RX0 22 "ShareDisk$Clients" "tag" "[J"]
def wsL_client_r2 : List Cond := [Cond.methodLink RX2 46 yX0_setShare, Cond.instanceMethod yX0_setShare, Cond.selects RX0 yX0_setShare yX0_setShare, Cond.code yX0_setShare cX0_setShare 4 none, Cond.fieldLink RX0 15 "ShareDisk$Clients" "sectorCost" "[I", Cond.fieldLink RX0 19 "ShareDisk$Clients" "budget" "[I"]
def wsL_client : List Cond := .codeWith yL_client cL_client 5 (some .int) [(0, 7, 10, 13)] :: ((wsL_client_r1 ++ wsL_client_r2) ++ wsX20 ++ wsX00 ++ (vx_at0 RX2 33 "java/lang/IllegalArgumentException" ["java/lang/RuntimeException", "java/lang/Exception"]).filter goodWord)
def wsL_gone_r1 : List Cond := [Cond.classLink RL 13 "java/lang/IllegalArgumentException", Cond.classLink RL 19 "java/lang/IllegalStateException", Cond.methodLink RL 15 yX2_gone, Cond.instanceMethod yX2_gone, Cond.selects RX2 yX2_gone yX2_gone, Cond.initialized RX2, Cond.code yX2_gone cX2_gone 2 none, Cond.classLink RX2 58 "java/lang/IllegalStateException", Cond.initialized "java/lang/IllegalStateException", Cond.fieldLink RX2 10 "ShareDisk" "clients" "LShareDisk$Clients;", Cond.fieldLink RX2 23 "ShareDisk" "sliceOwner" "I", Cond.methodLink RX2 50 yX2_requireThere, Cond.instanceMethod yX2_requireThere, Cond.selects RX2 yX2_requireThere yX2_requireThere, Cond.code yX2_requireThere cX2_requireThere 2 none, Cond.classLink RX2 31 "java/lang/IllegalArgumentException", Cond.initialized "java/lang/IllegalArgumentException", Cond.methodLink RX2 27 yX2_isWithin, Cond.static yX2_isWithin, Cond.code yX2_isWithin cX2_isWithin 3 (some .boolean), Cond.methodLink RX2 34 yX0_isThere, Cond.instanceMethod yX0_isThere, Cond.selects RX0 yX0_isThere yX0_isThere, Cond.initialized RX0]
def wsL_gone_r2 : List Cond := [Cond.code yX0_isThere cX0_isThere 2 (some .boolean), Cond.fieldLink RX0 9 "ShareDisk$Clients" "there" "[Z", Cond.methodLink RX2 54 yX0_waitingOf, Cond.instanceMethod yX0_waitingOf, Cond.selects RX0 yX0_waitingOf yX0_waitingOf, Cond.code yX0_waitingOf cX0_waitingOf 2 (some .int), Cond.fieldLink RX0 26 "ShareDisk$Clients" "waiting" "[I", Cond.methodLink RX2 61 yX0_leave, Cond.instanceMethod yX0_leave, Cond.selects RX0 yX0_leave yX0_leave, Cond.code yX0_leave cX0_leave 2 none, Cond.fieldLink RX0 29 "ShareDisk$Clients" "sectors" "[I", Cond.methodLink RX2 64 yX2_endSlice, Cond.instanceMethod yX2_endSlice, Cond.selects RX2 yX2_endSlice yX2_endSlice, Cond.code yX2_endSlice cX2_endSlice 1 none, Cond.fieldLink RX2 146 "ShareDisk" "sliceLeft" "I"]
def wsL_gone : List Cond := .codeWith yL_gone cL_gone 3 (some .int) [(0, 5, 8, 13), (0, 5, 11, 19)] :: ((wsL_gone_r1 ++ wsL_gone_r2) ++ wsX20 ++ wsX00 ++ (vx_at0 RX2 60 "java/lang/IllegalStateException" ["java/lang/RuntimeException", "java/lang/Exception"]).filter goodWord ++ (vx_at0 RX2 33 "java/lang/IllegalArgumentException" ["java/lang/RuntimeException", "java/lang/Exception"]).filter goodWord)
def wsL_submit_r1 : List Cond := [Cond.classLink RL 13 "java/lang/IllegalArgumentException", Cond.methodLink RL 21 yX2_submit, Cond.instanceMethod yX2_submit, Cond.selects RX2 yX2_submit yX2_submit, Cond.initialized RX2, Cond.code yX2_submit cX2_submit 6 (some .int), Cond.classLink RX2 31 "java/lang/IllegalArgumentException", Cond.initialized "java/lang/IllegalArgumentException", Cond.constant RX2 71 (1000000), Cond.fieldLink RX2 10 "ShareDisk" "clients" "LShareDisk$Clients;", Cond.fieldLink RX2 19 "ShareDisk" "requests" "LShareDisk$Requests;", Cond.fieldLink RX2 38 "ShareDisk" "systemTag" "J", Cond.fieldLink RX2 79 "ShareDisk" "clock" "J", Cond.methodLink RX2 50 yX2_requireThere, Cond.instanceMethod yX2_requireThere, Cond.selects RX2 yX2_requireThere yX2_requireThere, Cond.code yX2_requireThere cX2_requireThere 2 none, Cond.methodLink RX2 27 yX2_isWithin, Cond.static yX2_isWithin, Cond.code yX2_isWithin cX2_isWithin 3 (some .boolean), Cond.methodLink RX2 34 yX0_isThere, Cond.instanceMethod yX0_isThere, Cond.selects RX0 yX0_isThere yX0_isThere, Cond.initialized RX0]
def wsL_submit_r2 : List Cond := [Cond.code yX0_isThere cX0_isThere 2 (some .boolean), Cond.fieldLink RX0 9 "ShareDisk$Clients" "there" "[Z", Cond.methodLink RX2 67 yX2_areOnDisk, Cond.static yX2_areOnDisk, Cond.code yX2_areOnDisk cX2_areOnDisk 2 (some .boolean), Cond.constant RX2 151 (100000), Cond.methodLink RX2 54 yX0_waitingOf, Cond.instanceMethod yX0_waitingOf, Cond.selects RX0 yX0_waitingOf yX0_waitingOf, Cond.code yX0_waitingOf cX0_waitingOf 2 (some .int), Cond.fieldLink RX0 26 "ShareDisk$Clients" "waiting" "[I", Cond.methodLink RX2 72 yX1_isFull, Cond.instanceMethod yX1_isFull, Cond.selects RX1 yX1_isFull yX1_isFull, Cond.initialized RX1, Cond.code yX1_isFull cX1_isFull 1 (some .boolean), Cond.fieldLink RX1 41 "ShareDisk$Requests" "tickets" "I", Cond.methodLink RX2 76 yX0_noteRequest, Cond.instanceMethod yX0_noteRequest, Cond.selects RX0 yX0_noteRequest yX0_noteRequest, Cond.code yX0_noteRequest cX0_noteRequest 4 none, Cond.fieldLink RX0 22 "ShareDisk$Clients" "tag" "[J", Cond.methodLink RX0 37 Lib.MathLoose.max_long.x, Cond.static Lib.MathLoose.max_long.x]
def wsL_submit_r3 : List Cond := [Cond.initialized "java/lang/Math", Cond.code Lib.MathLoose.max_long.x Lib.MathLoose.max_long.code 4 (some .long), Cond.methodLink RX0 43 yX0_forgetLead, Cond.instanceMethod yX0_forgetLead, Cond.selects RX0 yX0_forgetLead yX0_forgetLead, Cond.code yX0_forgetLead cX0_forgetLead 3 none, Cond.fieldLink RX0 34 "ShareDisk$Clients" "lead" "[[J", Cond.methodLink RX2 82 yX1_add, Cond.instanceMethod yX1_add, Cond.selects RX1 yX1_add yX1_add, Cond.code yX1_add cX1_add 9 (some .int), Cond.fieldLink RX1 9 "ShareDisk$Requests" "owner" "[I", Cond.fieldLink RX1 15 "ShareDisk$Requests" "write" "[Z", Cond.fieldLink RX1 19 "ShareDisk$Requests" "first" "[I", Cond.fieldLink RX1 22 "ShareDisk$Requests" "size" "[I", Cond.fieldLink RX1 25 "ShareDisk$Requests" "deadline" "[J", Cond.fieldLink RX1 29 "ShareDisk$Requests" "waits" "[Z", Cond.fieldLink RX1 32 "ShareDisk$Requests" "blockers" "[I", Cond.methodLink RX1 51 yX1_mustKeepOrder, Cond.instanceMethod yX1_mustKeepOrder, Cond.selects RX1 yX1_mustKeepOrder yX1_mustKeepOrder, Cond.code yX1_mustKeepOrder cX1_mustKeepOrder 3 (some .boolean)]
def wsL_submit : List Cond := .codeWith yL_submit cL_submit 8 (some .int) [(0, 16, 19, 13)] :: ((wsL_submit_r1 ++ (wsL_submit_r2 ++ wsL_submit_r3)) ++ wsX20 ++ wsX00 ++ wsX10 ++ (vx_at0 RX2 33 "java/lang/IllegalArgumentException" ["java/lang/RuntimeException", "java/lang/Exception"]).filter goodWord)
def wsL_pass : List Cond := .codeWith yL_pass cL_pass 4 (some .int) [(0, 8, 11, 13)] :: ([.classLink RL 13 "java/lang/IllegalArgumentException", .methodLink RL 25 yX2_pass, .instanceMethod yX2_pass, .selects RX2 yX2_pass yX2_pass, .initialized RX2, .code yX2_pass cX2_pass 2 (some .long), .classLink RX2 31 "java/lang/IllegalArgumentException", .initialized "java/lang/IllegalArgumentException", .constant RX2 71 (1000000), .fieldLink RX2 79 "ShareDisk" "clock" "J", .methodLink RX2 27 yX2_isWithin, .static yX2_isWithin, .code yX2_isWithin cX2_isWithin 3 (some .boolean)] ++ wsX20 ++ (vx_at0 RX2 33 "java/lang/IllegalArgumentException" ["java/lang/RuntimeException", "java/lang/Exception"]).filter goodWord)
def wsL_state : List Cond := .codeWith yL_state cL_state 4 (some .int) [(0, 9, 12, 33)] :: ([.classLink RL 33 "java/lang/IndexOutOfBoundsException", .methodLink RL 29 yX2_state, .instanceMethod yX2_state, .selects RX2 yX2_state yX2_state, .initialized RX2, .code yX2_state cX2_state 2 (some .int), .classLink RX2 107 "java/lang/IndexOutOfBoundsException", .initialized "java/lang/IndexOutOfBoundsException", .fieldLink RX2 19 "ShareDisk" "requests" "LShareDisk$Requests;", .methodLink RX2 104 yX1_isTicket, .instanceMethod yX1_isTicket, .selects RX1 yX1_isTicket yX1_isTicket, .initialized RX1, .code yX1_isTicket cX1_isTicket 2 (some .boolean), .fieldLink RX1 41 "ShareDisk$Requests" "tickets" "I", .methodLink RX2 110 yX1_stateOf, .instanceMethod yX1_stateOf, .selects RX1 yX1_stateOf yX1_stateOf, .code yX1_stateOf cX1_stateOf 2 (some .int), .fieldLink RX1 29 "ShareDisk$Requests" "waits" "[Z", .fieldLink RX1 35 "ShareDisk$Requests" "servedHow" "[I", .fieldLink RX1 32 "ShareDisk$Requests" "blockers" "[I"] ++ wsX20 ++ wsX10 ++ (vx_at0 RX2 109 "java/lang/IndexOutOfBoundsException" ["java/lang/RuntimeException", "java/lang/Exception"]).filter goodWord)
def wsL_tag_r1 : List Cond := [Cond.classLink RL 13 "java/lang/IllegalArgumentException", Cond.methodLink RL 35 yX2_tag, Cond.instanceMethod yX2_tag, Cond.selects RX2 yX2_tag yX2_tag, Cond.initialized RX2, Cond.code yX2_tag cX2_tag 2 (some .long), Cond.fieldLink RX2 38 "ShareDisk" "systemTag" "J", Cond.fieldLink RX2 10 "ShareDisk" "clients" "LShareDisk$Clients;", Cond.methodLink RX2 50 yX2_requireThere, Cond.instanceMethod yX2_requireThere, Cond.selects RX2 yX2_requireThere yX2_requireThere, Cond.code yX2_requireThere cX2_requireThere 2 none, Cond.classLink RX2 31 "java/lang/IllegalArgumentException", Cond.initialized "java/lang/IllegalArgumentException", Cond.methodLink RX2 27 yX2_isWithin, Cond.static yX2_isWithin, Cond.code yX2_isWithin cX2_isWithin 3 (some .boolean), Cond.methodLink RX2 34 yX0_isThere, Cond.instanceMethod yX0_isThere, Cond.selects RX0 yX0_isThere yX0_isThere, Cond.initialized RX0, Cond.code yX0_isThere cX0_isThere 2 (some .boolean), Cond.fieldLink RX0 9 "ShareDisk$Clients" "there" "[Z", Cond.methodLink RX2 116 yX0_tagOf]
def wsL_tag_r2 : List Cond := [Cond.instanceMethod yX0_tagOf, Cond.selects RX0 yX0_tagOf yX0_tagOf, Cond.code yX0_tagOf cX0_tagOf 2 (some .long), Cond.fieldLink RX0 22 "ShareDisk$Clients" "tag" "[J"]
def wsL_tag : List Cond := .codeWith yL_tag cL_tag 4 (some .int) [(0, 8, 11, 13)] :: ((wsL_tag_r1 ++ wsL_tag_r2) ++ wsX20 ++ wsX00 ++ (vx_at0 RX2 33 "java/lang/IllegalArgumentException" ["java/lang/RuntimeException", "java/lang/Exception"]).filter goodWord)
def wsL_lag_r1 : List Cond := [Cond.classLink RL 13 "java/lang/IllegalArgumentException", Cond.methodLink RL 38 yX2_lag, Cond.instanceMethod yX2_lag, Cond.selects RX2 yX2_lag yX2_lag, Cond.initialized RX2, Cond.code yX2_lag cX2_lag 3 (some .long), Cond.classLink RX2 31 "java/lang/IllegalArgumentException", Cond.initialized "java/lang/IllegalArgumentException", Cond.fieldLink RX2 10 "ShareDisk" "clients" "LShareDisk$Clients;", Cond.methodLink RX2 50 yX2_requireThere, Cond.instanceMethod yX2_requireThere, Cond.selects RX2 yX2_requireThere yX2_requireThere, Cond.code yX2_requireThere cX2_requireThere 2 none, Cond.methodLink RX2 27 yX2_isWithin, Cond.static yX2_isWithin, Cond.code yX2_isWithin cX2_isWithin 3 (some .boolean), Cond.methodLink RX2 34 yX0_isThere, Cond.instanceMethod yX0_isThere, Cond.selects RX0 yX0_isThere yX0_isThere, Cond.initialized RX0, Cond.code yX0_isThere cX0_isThere 2 (some .boolean), Cond.fieldLink RX0 9 "ShareDisk$Clients" "there" "[Z", Cond.methodLink RX2 120 yX0_leadOf, Cond.instanceMethod yX0_leadOf]
def wsL_lag_r2 : List Cond := [Cond.selects RX0 yX0_leadOf yX0_leadOf, Cond.code yX0_leadOf cX0_leadOf 3 (some .long), Cond.fieldLink RX0 26 "ShareDisk$Clients" "waiting" "[I", Cond.fieldLink RX0 34 "ShareDisk$Clients" "lead" "[[J"]
def wsL_lag : List Cond := .codeWith yL_lag cL_lag 5 (some .int) [(0, 9, 12, 13)] :: ((wsL_lag_r1 ++ wsL_lag_r2) ++ wsX20 ++ wsX00 ++ (vx_at0 RX2 33 "java/lang/IllegalArgumentException" ["java/lang/RuntimeException", "java/lang/Exception"]).filter goodWord)
def wsL_law0_r1 : List Cond := [Cond.classLink RL 8 RX2, Cond.instantiable RX2 8, Cond.initialized RX2, Cond.classLink RL 43 RX3, Cond.instantiable RX3 24, Cond.initialized RX3, Cond.arrayClass .long, Cond.methodLink RL 42 yX2_init, Cond.instanceMethod yX2_init, Cond.code yX2_init cX2_init 1 none, Cond.methodLink RX2 1 objectInit, Cond.instanceMethod objectInit, Cond.code objectInit ⟨#[0xb1]⟩ 1 none, Cond.classLink RX2 7 RX0, Cond.instantiable RX0 7, Cond.initialized RX0, Cond.fieldLink RX2 10 "ShareDisk" "clients" "LShareDisk$Clients;", Cond.classLink RX2 16 RX1, Cond.instantiable RX1 12, Cond.initialized RX1, Cond.fieldLink RX2 19 "ShareDisk" "requests" "LShareDisk$Requests;", Cond.fieldLink RX2 23 "ShareDisk" "sliceOwner" "I", Cond.instanceMethod yX0_init, Cond.code yX0_init cX0_init 1 none]
def wsL_law0_r2 : List Cond := [Cond.methodLink RX0 3 objectInit, Cond.arrayClass .boolean, Cond.fieldLink RX0 9 "ShareDisk$Clients" "there" "[Z", Cond.arrayClass .int, Cond.fieldLink RX0 15 "ShareDisk$Clients" "sectorCost" "[I", Cond.fieldLink RX0 19 "ShareDisk$Clients" "budget" "[I", Cond.fieldLink RX0 22 "ShareDisk$Clients" "tag" "[J", Cond.fieldLink RX0 26 "ShareDisk$Clients" "waiting" "[I", Cond.fieldLink RX0 29 "ShareDisk$Clients" "sectors" "[I", Cond.classLink RX0 32 "[[J", Cond.fieldLink RX0 34 "ShareDisk$Clients" "lead" "[[J", Cond.instanceMethod yX1_init, Cond.code yX1_init cX1_init 1 none, Cond.methodLink RX1 3 objectInit, Cond.fieldLink RX1 9 "ShareDisk$Requests" "owner" "[I", Cond.fieldLink RX1 15 "ShareDisk$Requests" "write" "[Z", Cond.fieldLink RX1 19 "ShareDisk$Requests" "first" "[I", Cond.fieldLink RX1 22 "ShareDisk$Requests" "size" "[I", Cond.fieldLink RX1 25 "ShareDisk$Requests" "deadline" "[J", Cond.fieldLink RX1 29 "ShareDisk$Requests" "waits" "[Z", Cond.fieldLink RX1 32 "ShareDisk$Requests" "blockers" "[I", Cond.fieldLink RX1 35 "ShareDisk$Requests" "servedHow" "[I", Cond.fieldLink RX1 38 "ShareDisk$Requests" "servedOrder" "[I", Cond.methodLink RL 45 yX3_init]
def wsL_law0_r3 : List Cond := [Cond.instanceMethod yX3_init, Cond.code yX3_init cX3_init 1 none, Cond.methodLink RX3 1 objectInit, Cond.fieldLink RX3 7 "ShareDiskModel" "there" "[Z", Cond.fieldLink RX3 13 "ShareDiskModel" "weights" "[I", Cond.fieldLink RX3 17 "ShareDiskModel" "budgets" "[I", Cond.fieldLink RX3 20 "ShareDiskModel" "tags" "[J", Cond.fieldLink RX3 24 "ShareDiskModel" "sectors" "[J", Cond.fieldLink RX3 27 "ShareDiskModel" "grown" "[J", Cond.fieldLink RX3 30 "ShareDiskModel" "bases" "[J", Cond.fieldLink RX3 33 "ShareDiskModel" "clientOf" "[I", Cond.fieldLink RX3 36 "ShareDiskModel" "first" "[I", Cond.fieldLink RX3 39 "ShareDiskModel" "counts" "[I", Cond.fieldLink RX3 42 "ShareDiskModel" "order" "[I", Cond.fieldLink RX3 45 "ShareDiskModel" "writes" "[Z", Cond.fieldLink RX3 48 "ShareDiskModel" "done" "[Z", Cond.fieldLink RX3 51 "ShareDiskModel" "urgent" "[Z", Cond.fieldLink RX3 54 "ShareDiskModel" "deadlines" "[J", Cond.fieldLink RX3 57 "ShareDiskModel" "slice" "I", Cond.methodLink RL 46 yL_client, Cond.static yL_client, Cond.initialized RL, Cond.codeWith yL_client cL_client 5 (some .int) [(0, 7, 10, 13)], Cond.classLink RL 13 "java/lang/IllegalArgumentException"]
def wsL_law0_r4 : List Cond := [Cond.methodLink RL 7 yX2_client, Cond.instanceMethod yX2_client, Cond.selects RX2 yX2_client yX2_client, Cond.code yX2_client cX2_client 4 none, Cond.classLink RX2 31 "java/lang/IllegalArgumentException", Cond.initialized "java/lang/IllegalArgumentException", Cond.fieldLink RX2 38 "ShareDisk" "systemTag" "J", Cond.methodLink RX2 27 yX2_isWithin, Cond.static yX2_isWithin, Cond.code yX2_isWithin cX2_isWithin 3 (some .boolean), Cond.methodLink RX2 34 yX0_isThere, Cond.instanceMethod yX0_isThere, Cond.selects RX0 yX0_isThere yX0_isThere, Cond.code yX0_isThere cX0_isThere 2 (some .boolean), Cond.methodLink RX2 42 yX0_enter, Cond.instanceMethod yX0_enter, Cond.selects RX0 yX0_enter yX0_enter, Cond.code yX0_enter cX0_enter 4 none, Cond.methodLink RX2 46 yX0_setShare, Cond.instanceMethod yX0_setShare, Cond.selects RX0 yX0_setShare yX0_setShare, Cond.code yX0_setShare cX0_setShare 4 none, Cond.methodLink RL 51 yX3_client, Cond.instanceMethod yX3_client]
def wsL_law0_r5 : List Cond := [Cond.selects RX3 yX3_client yX3_client, Cond.code yX3_client cX3_client 4 none, Cond.constantLong RX3 64 (7), Cond.constantLong RX3 73 (12), Cond.constantLong RX3 75 (1000), Cond.methodLink RX3 66 yX3_in, Cond.static yX3_in, Cond.code yX3_in cX3_in 6 (some .boolean), Cond.methodLink RX3 77 yX3_fails, Cond.instanceMethod yX3_fails, Cond.selects RX3 yX3_fails yX3_fails, Cond.code yX3_fails cX3_fails 3 (some .boolean), Cond.fieldLink RX3 61 "ShareDiskModel" "thrown" "I", Cond.methodLink RL 52 yX3_thrown, Cond.instanceMethod yX3_thrown, Cond.selects RX3 yX3_thrown yX3_thrown, Cond.code yX3_thrown cX3_thrown 1 (some .int), Cond.methodLink RL 56 yL_gone, Cond.static yL_gone, Cond.codeWith yL_gone cL_gone 3 (some .int) [(0, 5, 8, 13), (0, 5, 11, 19)], Cond.classLink RL 19 "java/lang/IllegalStateException", Cond.methodLink RL 15 yX2_gone, Cond.instanceMethod yX2_gone, Cond.selects RX2 yX2_gone yX2_gone]
def wsL_law0_r6 : List Cond := [Cond.code yX2_gone cX2_gone 2 none, Cond.classLink RX2 58 "java/lang/IllegalStateException", Cond.initialized "java/lang/IllegalStateException", Cond.methodLink RX2 50 yX2_requireThere, Cond.instanceMethod yX2_requireThere, Cond.selects RX2 yX2_requireThere yX2_requireThere, Cond.code yX2_requireThere cX2_requireThere 2 none, Cond.methodLink RX2 54 yX0_waitingOf, Cond.instanceMethod yX0_waitingOf, Cond.selects RX0 yX0_waitingOf yX0_waitingOf, Cond.code yX0_waitingOf cX0_waitingOf 2 (some .int), Cond.methodLink RX2 61 yX0_leave, Cond.instanceMethod yX0_leave, Cond.selects RX0 yX0_leave yX0_leave, Cond.code yX0_leave cX0_leave 2 none, Cond.methodLink RX2 64 yX2_endSlice, Cond.instanceMethod yX2_endSlice, Cond.selects RX2 yX2_endSlice yX2_endSlice, Cond.code yX2_endSlice cX2_endSlice 1 none, Cond.fieldLink RX2 146 "ShareDisk" "sliceLeft" "I", Cond.methodLink RL 59 yX3_gone, Cond.instanceMethod yX3_gone, Cond.selects RX3 yX3_gone yX3_gone, Cond.code yX3_gone cX3_gone 2 none]
def wsL_law0_r7 : List Cond := [Cond.methodLink RX3 81 yX3_isThere, Cond.instanceMethod yX3_isThere, Cond.selects RX3 yX3_isThere yX3_isThere, Cond.code yX3_isThere cX3_isThere 2 (some .boolean), Cond.methodLink RX3 85 yX3_waiting, Cond.instanceMethod yX3_waiting, Cond.selects RX3 yX3_waiting yX3_waiting, Cond.code yX3_waiting cX3_waiting 4 (some .int), Cond.fieldLink RX3 70 "ShareDiskModel" "tickets" "I", Cond.methodLink RX3 89 yX3_end, Cond.instanceMethod yX3_end, Cond.selects RX3 yX3_end yX3_end, Cond.code yX3_end cX3_end 1 none, Cond.fieldLink RX3 92 "ShareDiskModel" "left" "I", Cond.methodLink RL 60 yL_submit, Cond.static yL_submit, Cond.codeWith yL_submit cL_submit 8 (some .int) [(0, 16, 19, 13)], Cond.methodLink RL 21 yX2_submit, Cond.instanceMethod yX2_submit, Cond.selects RX2 yX2_submit yX2_submit, Cond.code yX2_submit cX2_submit 6 (some .int), Cond.constant RX2 71 (1000000), Cond.fieldLink RX2 79 "ShareDisk" "clock" "J", Cond.methodLink RX2 67 yX2_areOnDisk]
def wsL_law0_r8 : List Cond := [Cond.static yX2_areOnDisk, Cond.code yX2_areOnDisk cX2_areOnDisk 2 (some .boolean), Cond.constant RX2 151 (100000), Cond.methodLink RX2 72 yX1_isFull, Cond.instanceMethod yX1_isFull, Cond.selects RX1 yX1_isFull yX1_isFull, Cond.code yX1_isFull cX1_isFull 1 (some .boolean), Cond.fieldLink RX1 41 "ShareDisk$Requests" "tickets" "I", Cond.methodLink RX2 76 yX0_noteRequest, Cond.instanceMethod yX0_noteRequest, Cond.selects RX0 yX0_noteRequest yX0_noteRequest, Cond.code yX0_noteRequest cX0_noteRequest 4 none, Cond.methodLink RX0 37 Lib.MathLoose.max_long.x, Cond.static Lib.MathLoose.max_long.x, Cond.initialized "java/lang/Math", Cond.code Lib.MathLoose.max_long.x Lib.MathLoose.max_long.code 4 (some .long), Cond.methodLink RX0 43 yX0_forgetLead, Cond.instanceMethod yX0_forgetLead, Cond.selects RX0 yX0_forgetLead yX0_forgetLead, Cond.code yX0_forgetLead cX0_forgetLead 3 none, Cond.methodLink RX2 82 yX1_add, Cond.instanceMethod yX1_add, Cond.selects RX1 yX1_add yX1_add, Cond.code yX1_add cX1_add 9 (some .int)]
def wsL_law0_r9 : List Cond := [Cond.methodLink RX1 51 yX1_mustKeepOrder, Cond.instanceMethod yX1_mustKeepOrder, Cond.selects RX1 yX1_mustKeepOrder yX1_mustKeepOrder, Cond.code yX1_mustKeepOrder cX1_mustKeepOrder 3 (some .boolean), Cond.methodLink RL 63 yX3_submit, Cond.instanceMethod yX3_submit, Cond.selects RX3 yX3_submit yX3_submit, Cond.code yX3_submit cX3_submit 9 (some .int), Cond.constantLong RX3 95 (99999), Cond.constantLong RX3 97 (64), Cond.constantLong RX3 99 (100000), Cond.constantLong RX3 101 (1000000), Cond.fieldLink RX3 107 "ShareDiskModel" "clock" "J", Cond.methodLink RX3 103 yX3_begin, Cond.instanceMethod yX3_begin, Cond.selects RX3 yX3_begin yX3_begin, Cond.code yX3_begin cX3_begin 3 none, Cond.methodLink RL 64 yX2_dispatch, Cond.instanceMethod yX2_dispatch, Cond.selects RX2 yX2_dispatch yX2_dispatch, Cond.code yX2_dispatch cX2_dispatch 3 (some .int), Cond.fieldLink RX2 97 "ShareDisk" "head" "I", Cond.methodLink RX2 86 yX1_mostUrgent, Cond.instanceMethod yX1_mostUrgent]
def wsL_law0_r10 : List Cond := [Cond.selects RX1 yX1_mostUrgent yX1_mostUrgent, Cond.code yX1_mostUrgent cX1_mostUrgent 5 (some .int), Cond.methodLink RX1 55 yX1_stateOf, Cond.instanceMethod yX1_stateOf, Cond.selects RX1 yX1_stateOf yX1_stateOf, Cond.code yX1_stateOf cX1_stateOf 2 (some .int), Cond.methodLink RX2 90 yX2_serve, Cond.instanceMethod yX2_serve, Cond.selects RX2 yX2_serve yX2_serve, Cond.code yX2_serve cX2_serve 5 none, Cond.methodLink RX2 158 yX1_ownerOf, Cond.instanceMethod yX1_ownerOf, Cond.selects RX1 yX1_ownerOf yX1_ownerOf, Cond.code yX1_ownerOf cX1_ownerOf 2 (some .int), Cond.methodLink RX2 161 yX1_sizeOf, Cond.instanceMethod yX1_sizeOf, Cond.selects RX1 yX1_sizeOf yX1_sizeOf, Cond.code yX1_sizeOf cX1_sizeOf 2 (some .int), Cond.methodLink RX2 164 yX1_firstOf, Cond.instanceMethod yX1_firstOf, Cond.selects RX1 yX1_firstOf yX1_firstOf, Cond.code yX1_firstOf cX1_firstOf 2 (some .int), Cond.methodLink RX2 167 yX2_moveHead, Cond.instanceMethod yX2_moveHead]
def wsL_law0_r11 : List Cond := [Cond.selects RX2 yX2_moveHead yX2_moveHead, Cond.code yX2_moveHead cX2_moveHead 4 none, Cond.methodLink RX2 183 Lib.Math.abs.name, Cond.static Lib.Math.abs.name, Cond.code Lib.Math.abs.name Lib.Math.abs.code 1 (some .int), Cond.fieldLink RX2 143 "ShareDisk" "passedOver" "J", Cond.methodLink RX2 170 yX1_markServed, Cond.instanceMethod yX1_markServed, Cond.selects RX1 yX1_markServed yX1_markServed, Cond.code yX1_markServed cX1_markServed 4 none, Cond.fieldLink RX1 45 "ShareDisk$Requests" "served" "I", Cond.fieldLink RX1 48 "ShareDisk$Requests" "urgent" "I", Cond.methodLink RX2 173 yX0_noteService, Cond.instanceMethod yX0_noteService, Cond.selects RX0 yX0_noteService yX0_noteService, Cond.code yX0_noteService cX0_noteService 6 none, Cond.methodLink RX2 176 yX2_takeFromSlice, Cond.instanceMethod yX2_takeFromSlice, Cond.selects RX2 yX2_takeFromSlice yX2_takeFromSlice, Cond.code yX2_takeFromSlice cX2_takeFromSlice 2 none, Cond.methodLink RX2 134 yX1_waiting, Cond.instanceMethod yX1_waiting, Cond.selects RX1 yX1_waiting yX1_waiting, Cond.code yX1_waiting cX1_waiting 1 (some .int)]
def wsL_law0_r12 : List Cond := [Cond.methodLink RX2 179 yX0_greatestTag, Cond.instanceMethod yX0_greatestTag, Cond.selects RX0 yX0_greatestTag yX0_greatestTag, Cond.code yX0_greatestTag cX0_greatestTag 6 (some .long), Cond.methodLink RX2 94 yX2_beginSlice, Cond.instanceMethod yX2_beginSlice, Cond.selects RX2 yX2_beginSlice yX2_beginSlice, Cond.code yX2_beginSlice cX2_beginSlice 2 none, Cond.methodLink RX2 152 yX0_nextInTurn, Cond.instanceMethod yX0_nextInTurn, Cond.selects RX0 yX0_nextInTurn yX0_nextInTurn, Cond.code yX0_nextInTurn cX0_nextInTurn 3 (some .int), Cond.methodLink RX2 155 yX0_budgetOf, Cond.instanceMethod yX0_budgetOf, Cond.selects RX0 yX0_budgetOf yX0_budgetOf, Cond.code yX0_budgetOf cX0_budgetOf 2 (some .int), Cond.methodLink RX2 116 yX0_tagOf, Cond.instanceMethod yX0_tagOf, Cond.selects RX0 yX0_tagOf yX0_tagOf, Cond.code yX0_tagOf cX0_tagOf 2 (some .long), Cond.methodLink RX2 100 yX1_nextAlong, Cond.instanceMethod yX1_nextAlong, Cond.selects RX1 yX1_nextAlong yX1_nextAlong, Cond.code yX1_nextAlong cX1_nextAlong 5 (some .int)]
def wsL_law0_r13 : List Cond := [Cond.methodLink RX1 59 yX1_turnOf, Cond.instanceMethod yX1_turnOf, Cond.selects RX1 yX1_turnOf yX1_turnOf, Cond.code yX1_turnOf cX1_turnOf 3 (some .int), Cond.constant RX1 63 (100000), Cond.methodLink RL 67 yX3_dispatch, Cond.instanceMethod yX3_dispatch, Cond.selects RX3 yX3_dispatch yX3_dispatch, Cond.code yX3_dispatch cX3_dispatch 3 (some .int), Cond.fieldLink RX3 124 "ShareDiskModel" "served" "I", Cond.methodLink RX3 127 yX3_due, Cond.instanceMethod yX3_due, Cond.selects RX3 yX3_due yX3_due, Cond.code yX3_due cX3_due 3 (some .int), Cond.methodLink RX3 114 yX3_canGo, Cond.instanceMethod yX3_canGo, Cond.selects RX3 yX3_canGo yX3_canGo, Cond.code yX3_canGo cX3_canGo 2 (some .boolean), Cond.methodLink RX3 111 yX3_isBlocked, Cond.instanceMethod yX3_isBlocked, Cond.selects RX3 yX3_isBlocked yX3_isBlocked, Cond.code yX3_isBlocked cX3_isBlocked 5 (some .boolean), Cond.methodLink RX3 131 yX3_choose, Cond.instanceMethod yX3_choose]
def wsL_law0_r14 : List Cond := [Cond.selects RX3 yX3_choose yX3_choose, Cond.code yX3_choose cX3_choose 2 none, Cond.methodLink RX3 134 yX3_next, Cond.instanceMethod yX3_next, Cond.selects RX3 yX3_next yX3_next, Cond.code yX3_next cX3_next 3 (some .int), Cond.methodLink RX3 117 yX3_ahead, Cond.instanceMethod yX3_ahead, Cond.selects RX3 yX3_ahead yX3_ahead, Cond.code yX3_ahead cX3_ahead 2 (some .int), Cond.fieldLink RX3 120 "ShareDiskModel" "head" "I", Cond.constant RX3 123 (100000), Cond.methodLink RX3 137 yX3_serve, Cond.instanceMethod yX3_serve, Cond.selects RX3 yX3_serve yX3_serve, Cond.code yX3_serve cX3_serve 8 none, Cond.fieldLink RX3 141 "ShareDiskModel" "passed" "J", Cond.fieldLink RX3 144 "ShareDiskModel" "urgents" "I", Cond.constantLong RX3 147 (27720), Cond.methodLink RL 68 yL_pass, Cond.static yL_pass, Cond.codeWith yL_pass cL_pass 4 (some .int) [(0, 8, 11, 13)], Cond.methodLink RL 25 yX2_pass, Cond.instanceMethod yX2_pass]
def wsL_law0_r15 : List Cond := [Cond.selects RX2 yX2_pass yX2_pass, Cond.code yX2_pass cX2_pass 2 (some .long), Cond.methodLink RL 71 yX3_pass, Cond.instanceMethod yX3_pass, Cond.selects RX3 yX3_pass yX3_pass, Cond.code yX3_pass cX3_pass 2 (some .long), Cond.methodLink RL 72 yL_state, Cond.static yL_state, Cond.codeWith yL_state cL_state 4 (some .int) [(0, 9, 12, 33)], Cond.classLink RL 33 "java/lang/IndexOutOfBoundsException", Cond.methodLink RL 29 yX2_state, Cond.instanceMethod yX2_state, Cond.selects RX2 yX2_state yX2_state, Cond.code yX2_state cX2_state 2 (some .int), Cond.classLink RX2 107 "java/lang/IndexOutOfBoundsException", Cond.initialized "java/lang/IndexOutOfBoundsException", Cond.methodLink RX2 104 yX1_isTicket, Cond.instanceMethod yX1_isTicket, Cond.selects RX1 yX1_isTicket yX1_isTicket, Cond.code yX1_isTicket cX1_isTicket 2 (some .boolean), Cond.methodLink RX2 110 yX1_stateOf, Cond.methodLink RL 74 yX3_state, Cond.instanceMethod yX3_state, Cond.selects RX3 yX3_state yX3_state]
def wsL_law0_r16 : List Cond := [Cond.code yX3_state cX3_state 2 (some .int), Cond.methodLink RL 75 yX2_order, Cond.instanceMethod yX2_order, Cond.selects RX2 yX2_order yX2_order, Cond.code yX2_order cX2_order 2 (some .int), Cond.methodLink RX2 113 yX1_servedAt, Cond.instanceMethod yX1_servedAt, Cond.selects RX1 yX1_servedAt yX1_servedAt, Cond.code yX1_servedAt cX1_servedAt 2 (some .int), Cond.methodLink RL 78 yX3_order, Cond.instanceMethod yX3_order, Cond.selects RX3 yX3_order yX3_order, Cond.code yX3_order cX3_order 2 (some .int), Cond.methodLink RL 79 yL_tag, Cond.static yL_tag, Cond.codeWith yL_tag cL_tag 4 (some .int) [(0, 8, 11, 13)], Cond.methodLink RL 35 yX2_tag, Cond.instanceMethod yX2_tag, Cond.selects RX2 yX2_tag yX2_tag, Cond.code yX2_tag cX2_tag 2 (some .long), Cond.methodLink RL 81 yX3_tag, Cond.instanceMethod yX3_tag, Cond.selects RX3 yX3_tag yX3_tag, Cond.code yX3_tag cX3_tag 2 (some .long)]
def wsL_law0_r17 : List Cond := [Cond.methodLink RL 82 yL_lag, Cond.static yL_lag, Cond.codeWith yL_lag cL_lag 5 (some .int) [(0, 9, 12, 13)], Cond.methodLink RL 38 yX2_lag, Cond.instanceMethod yX2_lag, Cond.selects RX2 yX2_lag yX2_lag, Cond.code yX2_lag cX2_lag 3 (some .long), Cond.methodLink RX2 120 yX0_leadOf, Cond.instanceMethod yX0_leadOf, Cond.selects RX0 yX0_leadOf yX0_leadOf, Cond.code yX0_leadOf cX0_leadOf 3 (some .long), Cond.methodLink RL 85 yX3_lag, Cond.instanceMethod yX3_lag, Cond.selects RX3 yX3_lag yX3_lag, Cond.code yX3_lag cX3_lag 3 (some .long), Cond.methodLink RL 86 yX2_count, Cond.instanceMethod yX2_count, Cond.selects RX2 yX2_count yX2_count, Cond.code yX2_count cX2_count 2 (some .long), Cond.methodLink RX2 124 yX0_sectorsOf, Cond.instanceMethod yX0_sectorsOf, Cond.selects RX0 yX0_sectorsOf yX0_sectorsOf, Cond.code yX0_sectorsOf cX0_sectorsOf 2 (some .int), Cond.methodLink RX2 127 yX2_countOfDisk]
def wsL_law0_r18 : List Cond := [Cond.instanceMethod yX2_countOfDisk, Cond.selects RX2 yX2_countOfDisk yX2_countOfDisk, Cond.code yX2_countOfDisk cX2_countOfDisk 2 (some .long), Cond.constantLong RX2 149 (-1), Cond.methodLink RX2 130 yX0_howMany, Cond.instanceMethod yX0_howMany, Cond.selects RX0 yX0_howMany yX0_howMany, Cond.code yX0_howMany cX0_howMany 3 (some .int), Cond.methodLink RX2 137 yX1_served, Cond.instanceMethod yX1_served, Cond.selects RX1 yX1_served yX1_served, Cond.code yX1_served cX1_served 1 (some .int), Cond.methodLink RX2 140 yX1_urgent, Cond.instanceMethod yX1_urgent, Cond.selects RX1 yX1_urgent yX1_urgent, Cond.code yX1_urgent cX1_urgent 1 (some .int), Cond.methodLink RL 89 yX3_count, Cond.instanceMethod yX3_count, Cond.selects RX3 yX3_count yX3_count, Cond.code yX3_count cX3_count 5 (some .long), Cond.constantLong RX3 149 (8), Cond.constantLong RX3 151 (15), Cond.constantLong RX3 153 (16), Cond.constantLong RX3 155 (23)]
def wsL_law0_r19 : List Cond := [Cond.constantLong RX3 157 (-1)]
def wsL_law0 : List Cond := (wsL_law0_r1 ++ (wsL_law0_r2 ++ (wsL_law0_r3 ++ (wsL_law0_r4 ++ (wsL_law0_r5 ++ (wsL_law0_r6 ++ (wsL_law0_r7 ++ (wsL_law0_r8 ++ (wsL_law0_r9 ++ (wsL_law0_r10 ++ (wsL_law0_r11 ++ (wsL_law0_r12 ++ (wsL_law0_r13 ++ (wsL_law0_r14 ++ (wsL_law0_r15 ++ (wsL_law0_r16 ++ (wsL_law0_r17 ++ (wsL_law0_r18 ++ wsL_law0_r19)))))))))))))))))) ++ wsX20 ++ wsX30 ++ wsX00 ++ wsX10 ++ ([] : List Cond)
def wsL_law : List Cond := wsL_law0 ++ (vx_at0 RX2 33 "java/lang/IllegalArgumentException" ["java/lang/RuntimeException", "java/lang/Exception"]).filter goodWord ++ (vx_at0 RX2 60 "java/lang/IllegalStateException" ["java/lang/RuntimeException", "java/lang/Exception"]).filter goodWord ++ (vx_at0 RX2 109 "java/lang/IndexOutOfBoundsException" ["java/lang/RuntimeException", "java/lang/Exception"]).filter goodWord
abbrev vwCl : List vw_C := [(RX0, TX0, 7), (RX1, TX1, 12), (RX2, TX2, 8), (RX3, TX3, 24)]
end
section
/-! Contracts by worlds: what a method finds, what it leaves; starts, ends, calls. -/
abbrev kT (k : Nat → ClassId) : List (ClassId × FieldType) := [(k 0, .boolean), (k 1, .int), (k 2, .long), (k 3, .array .long)]
def PR (D : va_G) (k : Nat → ClassId) (w : va_W) (sz : Nat) (U : State) : Prop := U.heap.size = sz ∧ va_P D vwCl w U.heap ∧ va_K D vwCl (kT k) U ∧ va_D (fun _ => True) w
def AT (D : va_G) (k : Nat → ClassId) (A : Nat → Prop) (w : va_W) (t : State) : Prop := va_P D vwCl w t.heap ∧ va_K D vwCl (kT k) t ∧ va_D A w
/-- the two statics that a throw reads -/
def ZZ (A : Nat → Prop) (U : State) (H : Heap) : Prop := vx_Zq Bundle.tN "UNASSIGNED_STACK" Bundle.steD A U H ∧ vx_Zq Bundle.tN "SUPPRESSED_SENTINEL" Bundle.listD A U H
def PX (D : va_G) (k : Nat → ClassId) (w : va_W) (sz : Nat) (U : State) : Prop := PR D k w sz U ∧ ZZ (va_A w sz) U U.heap
theorem PR.calling {D : va_G} {k : Nat → ClassId} {w : va_W} {sz : Nat} {U : State} (g : JFrame) (mk : MethodId) (a : Array Value) (h : PR D k w sz U) : PR D k w sz (U.calling g mk a) :=
  ⟨h.1, h.2.1, va_K.moved (u := U) (U := U.calling g mk a) (Vm.Alike.refl U.vm) h.2.2.1, h.2.2.2⟩
theorem ZZ.moved {A : Nat → Prop} {u U : State} {H : Heap} (hvm : u.vm.Alike U.vm) (h : ZZ A u H) : ZZ A U H := ⟨vx_Zq.moved hvm h.1, vx_Zq.moved hvm h.2⟩
theorem ZZ.kept {A : Nat → Prop} {U : State} {H H1 : Heap} (h : ZZ A U H) (hq : ∀ a : Nat, a < H.size → ¬ A a → H1[a]? = H[a]?) : ZZ A U H1 := ⟨vx_Zq.kept h.1 hq, vx_Zq.kept h.2 hq⟩
theorem ZZ.narrow {A B : Nat → Prop} {U : State} {H : Heap} (h : ZZ A U H) (hAB : ∀ q, B q → A q) : ZZ B U H := ⟨vx_Zq.narrow h.1 hAB, vx_Zq.narrow h.2 hAB⟩
theorem PX.calling {D : va_G} {k : Nat → ClassId} {w : va_W} {sz : Nat} {U : State} (g : JFrame) (mk : MethodId) (a : Array Value) (h : PX D k w sz U) : PX D k w sz (U.calling g mk a) :=
  ⟨h.1.calling g mk a, ZZ.moved (u := U) (U := U.calling g mk a) (Vm.Alike.refl U.vm) h.2⟩
theorem PR.blind {D : va_G} {k : Nat → ClassId} {w : va_W} {sz : Nat} {av : List Value} : FrameBlind (va_Pc av (PR D k w sz)) := fun a _ g mk q => ⟨q.1, q.2.calling g mk a⟩
theorem PX.blind {D : va_G} {k : Nat → ClassId} {w : va_W} {sz : Nat} {av : List Value} : FrameBlind (va_Pc av (PX D k w sz)) := fun a _ g mk q => ⟨q.1, q.2.calling g mk a⟩
abbrev QI (D : va_G) (k : Nat → ClassId) (post : Int32 → va_W → Prop) (A : Nat → Prop) := va_Qi post (AT D k A) A
abbrev QL (D : va_G) (k : Nat → ClassId) (post : Int64 → va_W → Prop) (A : Nat → Prop) := va_Ql post (AT D k A) A
abbrev QV (D : va_G) (k : Nat → ClassId) (post : va_W → Prop) (A : Nat → Prop) := va_Qv post (AT D k A) A
abbrev QX (D : va_G) (k : Nat → ClassId) (px : String → va_W → Prop) (A : Nat → Prop) : String → State → State → Prop := vx_X (fun _ : va_W => True) (fun E w' t => px E w' ∧ AT D k A w' t) A
abbrev MI (l : Launch) (y : MethodName) (ws : List Cond) (rm : Room) (D : va_G) (k : Nat → ClassId) (w : va_W) (sz : Nat) (av : List Value) (post : Int32 → va_W → Prop) (mc ms : Nat) : Prop := Met l y ws rm (va_Pc av (PR D k w sz)) (QI D k post (va_A w sz)) mc ms (va_A w sz)
abbrev ML (l : Launch) (y : MethodName) (ws : List Cond) (rm : Room) (D : va_G) (k : Nat → ClassId) (w : va_W) (sz : Nat) (av : List Value) (post : Int64 → va_W → Prop) (mc ms : Nat) : Prop := Met l y ws rm (va_Pc av (PR D k w sz)) (QL D k post (va_A w sz)) mc ms (va_A w sz)
abbrev MV (l : Launch) (y : MethodName) (ws : List Cond) (rm : Room) (D : va_G) (k : Nat → ClassId) (w : va_W) (sz : Nat) (av : List Value) (post : va_W → Prop) (mc ms : Nat) : Prop := Met l y ws rm (va_Pc av (PR D k w sz)) (QV D k post (va_A w sz)) mc ms (va_A w sz)
abbrev XI (l : Launch) (y : MethodName) (ws : List Cond) (rm : Room) (D : va_G) (k : Nat → ClassId) (w : va_W) (sz : Nat) (av : List Value) (post : Int32 → va_W → Prop) (px : String → va_W → Prop) (mc ms : Nat) : Prop := vx_Met l y ws rm (va_Pc av (PX D k w sz)) (QI D k post (va_A w sz)) (QX D k px (va_A w sz)) mc ms (va_A w sz)
abbrev XL (l : Launch) (y : MethodName) (ws : List Cond) (rm : Room) (D : va_G) (k : Nat → ClassId) (w : va_W) (sz : Nat) (av : List Value) (post : Int64 → va_W → Prop) (px : String → va_W → Prop) (mc ms : Nat) : Prop := vx_Met l y ws rm (va_Pc av (PX D k w sz)) (QL D k post (va_A w sz)) (QX D k px (va_A w sz)) mc ms (va_A w sz)
abbrev XV (l : Launch) (y : MethodName) (ws : List Cond) (rm : Room) (D : va_G) (k : Nat → ClassId) (w : va_W) (sz : Nat) (av : List Value) (post : va_W → Prop) (px : String → va_W → Prop) (mc ms : Nat) : Prop := vx_Met l y ws rm (va_Pc av (PX D k w sz)) (QV D k post (va_A w sz)) (QX D k px (va_A w sz)) mc ms (va_A w sz)
/-- what a body knows -/
abbrev CX (p : Program) (s : State) (m : MethodId) (meth : Method) (c : Code) (cc : ByteArray) (maxL : Nat) (ret : Option FieldType) (ws : List Cond) (av : List Value) (own nm : String) : Prop :=
  p.tables.exec = Jvm.exec ∧ c.code = cc ∧ c.maxLocals = maxL ∧ meth.sig.returnType = ret ∧ (∀ w ∈ ws, w.before av.toArray s = true) ∧ s.vm.findClass own = some m.cls ∧ meth.locks = false ∧ meth.name = nm
/-! lists of cells in blocks -/
theorem wp_mem {D : va_G} {w : va_W} {H : Heap} : va_P D vwCl w H ↔ ∀ q ∈ w, va_at D vwCl q H := by
  constructor
  · intro h q hq
    obtain ⟨i, hi⟩ := List.getElem?_of_mem hq
    exact h i q hi
  · intro h k q hk
    exact h q (List.mem_of_getElem? hk)
theorem wd_in {A : Nat → Prop} {w : va_W} (h : va_D A w) {q : Nat × va_E} (hq : q ∈ w) : A q.1 := by
  obtain ⟨i, hi⟩ := List.getElem?_of_mem hq
  exact h.2 i q hi
theorem wd_l {A : Nat → Prop} {a b : va_W} (h : va_D A (a ++ b)) : va_D A a := by
  refine ⟨fun i j p q hi hj hpq => ?_, fun k q hk => ?_⟩
  · have li := (List.getElem?_eq_some_iff.mp hi).1
    have lj := (List.getElem?_eq_some_iff.mp hj).1
    exact h.1 i j p q (by rw [List.getElem?_append_left li]; exact hi) (by rw [List.getElem?_append_left lj]; exact hj) hpq
  · have lk := (List.getElem?_eq_some_iff.mp hk).1
    exact h.2 k q (by rw [List.getElem?_append_left lk]; exact hk)
theorem wd_r {A : Nat → Prop} {a b : va_W} (h : va_D A (a ++ b)) : va_D A b := by
  have key : ∀ (i : Nat) (q : Nat × va_E), b[i]? = some q → (a ++ b)[a.length + i]? = some q := fun i q hi => by
    rw [List.getElem?_append_right (Nat.le_add_right _ _), Nat.add_sub_cancel_left]; exact hi
  refine ⟨fun i j p q hi hj hpq => ?_, fun k q hk => h.2 _ q (key k q hk)⟩
  have := h.1 _ _ p q (key i p hi) (key j q hj) hpq
  omega
theorem wd_x {A : Nat → Prop} {a b : va_W} (h : va_D A (a ++ b)) {p q : Nat × va_E} (hp : p ∈ a) (hq : q ∈ b) : p.1 ≠ q.1 := by
  obtain ⟨i, hi⟩ := List.getElem?_of_mem hp
  obtain ⟨j, hj⟩ := List.getElem?_of_mem hq
  have li := (List.getElem?_eq_some_iff.mp hi).1
  intro he
  have := h.1 i (a.length + j) p q (by rw [List.getElem?_append_left li]; exact hi) (by rw [List.getElem?_append_right (Nat.le_add_right _ _), Nat.add_sub_cancel_left]; exact hj) he
  omega
theorem wd_app {A : Nat → Prop} {a b : va_W} (h1 : va_D A a) (h2 : va_D A b) (hx : ∀ p ∈ a, ∀ q ∈ b, p.1 ≠ q.1) : va_D A (a ++ b) :=
  va_D.app h1 h2 (fun _ _ p q hp hq => hx p (List.mem_of_getElem? hp) q (List.mem_of_getElem? hq))
theorem va_A_mem {w : va_W} {sz q : Nat} : va_A w sz q ↔ (∃ e, (q, e) ∈ w) ∨ sz ≤ q := by
  constructor
  · rintro (⟨k, e, h⟩ | h)
    · exact Or.inl ⟨e, List.mem_of_getElem? h⟩
    · exact Or.inr h
  · rintro (⟨e, h⟩ | h)
    · obtain ⟨i, hi⟩ := List.getElem?_of_mem h
      exact Or.inl ⟨i, e, hi⟩
    · exact Or.inr h
/-- a callee's block among the caller's -/
theorem blk_free {A : Nat → Prop} {X B Y : va_W} {H0 H : Heap} {locs : List Loc} (hD : va_D A (X ++ (B ++ Y))) (hS : va_S A H0 H locs) (hA : ∀ q, H0.size ≤ q → A q) : ∀ q, va_A B H.size q → A q := by
  intro q h
  rcases va_A_mem.mp h with ⟨e, h⟩ | h
  · exact wd_in hD (List.mem_append_right X (List.mem_append_left Y h) : (q, e) ∈ X ++ (B ++ Y))
  · exact hA q (Nat.le_trans hS.1 h)
theorem blk_join {A : Nat → Prop} {D : va_G} {X B Y B' : va_W} {H H1 : Heap} (hP : va_P D vwCl (X ++ (B ++ Y)) H) (hD : va_D A (X ++ (B ++ Y))) (hk : ∀ q : Nat, q < H.size → ¬ va_A B H.size q → H1[q]? = H[q]?) (hF : ∀ q, va_A B H.size q → A q) (hP1 : va_P D vwCl B' H1) (hD1 : va_D (va_A B H.size) B') :
    va_P D vwCl (X ++ (B' ++ Y)) H1 ∧ va_D A (X ++ (B' ++ Y)) := by
  have hP' := wp_mem.mp hP
  have hB' := wp_mem.mp hP1
  have hDr := wd_r hD
  have offX : ∀ p ∈ X, ¬ va_A B H.size p.1 := by
    intro p hp h
    have hl := (hP' p (List.mem_append_left _ hp)).lt
    rcases va_A_mem.mp h with ⟨e, he⟩ | h
    · exact wd_x hD hp (List.mem_append_left Y he) rfl
    · omega
  have offY : ∀ p ∈ Y, ¬ va_A B H.size p.1 := by
    intro p hp h
    have hl := (hP' p (List.mem_append_right _ (List.mem_append_right _ hp))).lt
    rcases va_A_mem.mp h with ⟨e, he⟩ | h
    · exact wd_x hDr he hp rfl
    · omega
  refine ⟨wp_mem.mpr fun p hp => ?_, wd_app (wd_l hD) (wd_app (hD1.weaken fun k q _ h => hF q.1 h) (wd_r hDr) ?_) ?_⟩
  · rcases List.mem_append.mp hp with h | h
    · exact (hP' p (List.mem_append_left _ h)).kept (hk p.1 (hP' p (List.mem_append_left _ h)).lt (offX p h))
    · rcases List.mem_append.mp h with h | h
      · exact hB' p h
      · have hm : p ∈ X ++ (B ++ Y) := List.mem_append_right _ (List.mem_append_right _ h)
        exact (hP' p hm).kept (hk p.1 (hP' p hm).lt (offY p h))
  · intro p hp q hq he
    exact offY q hq (by rw [← he]; exact wd_in hD1 hp)
  · intro p hp q hq he
    rcases List.mem_append.mp hq with h | h
    · exact offX p hp (by rw [he]; exact wd_in hD1 h)
    · exact wd_x hD hp (List.mem_append_right _ h) he
theorem blk_P {D : va_G} {X B Y : va_W} {H : Heap} (hP : va_P D vwCl (X ++ (B ++ Y)) H) : va_P D vwCl B H := wp_mem.mpr fun q hq => wp_mem.mp hP q (List.mem_append_right _ (List.mem_append_left _ hq))
theorem blk_D {A : Nat → Prop} {X B Y : va_W} (hD : va_D A (X ++ (B ++ Y))) : va_D (fun _ => True) B := (wd_l (wd_r hD)).weaken fun _ _ _ _ => trivial
theorem blk_pre {D : va_G} {k : Nat → ClassId} {A : Nat → Prop} {X B Y : va_W} {s U : State} {H : Heap} (hP : va_P D vwCl (X ++ (B ++ Y)) H) (hD : va_D A (X ++ (B ++ Y))) (hK : va_K D vwCl (kT k) s) (hU : U.heap = H) (hW : s.WarmedH U.vm) : PR D k B H.size U :=
  ⟨by rw [hU], by rw [hU]; exact blk_P hP, va_K.moved hW.alike hK, blk_D hD⟩
theorem blk_preX {D : va_G} {k : Nat → ClassId} {A : Nat → Prop} {X B Y : va_W} {s U : State} {H : Heap} {locs : List Loc} (hP : va_P D vwCl (X ++ (B ++ Y)) H) (hD : va_D A (X ++ (B ++ Y))) (hK : va_K D vwCl (kT k) s) (hZ : ZZ A s s.heap) (hS : va_S A s.heap H locs) (hA : ∀ q, s.heap.size ≤ q → A q) (hU : U.heap = H) (hW : s.WarmedH U.vm) : PX D k B H.size U :=
  ⟨blk_pre hP hD hK hU hW, by rw [hU]; exact ((hZ.kept hS.2.1).narrow (blk_free hD hS hA)).moved hW.alike⟩
/-- a pure callee: its world is empty -/
theorem nil_P {D : va_G} {w : va_W} {H H1 : Heap} (hP : va_P D vwCl w H) (hk : ∀ q : Nat, q < H.size → ¬ va_A ([] : va_W) H.size q → H1[q]? = H[q]?) : va_P D vwCl w H1 :=
  hP.kept fun i q hq => hk q.1 (hP i q hq).lt (fun h => by
    rcases va_A_mem.mp h with ⟨e, he⟩ | h
    · cases he
    · have := (hP i q hq).lt; omega)
theorem nil_free {A : Nat → Prop} {H0 H : Heap} {locs : List Loc} (hS : va_S A H0 H locs) (hA : ∀ q, H0.size ≤ q → A q) : ∀ q, va_A ([] : va_W) H.size q → A q := by
  intro q h
  rcases va_A_mem.mp h with ⟨e, he⟩ | h
  · cases he
  · exact hA q (Nat.le_trans hS.1 h)
theorem nil_pre {D : va_G} {k : Nat → ClassId} {s U : State} {H : Heap} (hK : va_K D vwCl (kT k) s) (hU : U.heap = H) (hW : s.WarmedH U.vm) : PR D k [] H.size U :=
  ⟨by rw [hU], fun k q h => by simp at h, va_K.moved hW.alike hK, ⟨fun i j p q h => by simp at h, fun k q h => by simp at h⟩⟩

section START
variable {l : Launch} {y : MethodName} {ws ws' : List Cond} {rm : Room} {D : va_G} {k : Nat → ClassId} {w : va_W} {sz mc ms : Nat} {av : List Value} {cc : ByteArray} {maxL : Nat} {ret : Option FieldType}
theorem bodyOf {Qc : (Nat → Prop) → Array Value → State → Outcome → State → Prop} (hy : plainName y.cls = true) (hw : ws = Cond.code y cc maxL ret :: ws') (hle : (lg_sl av).length ≤ maxL)
    (body : ∀ (p : Program) (e : Env) (s : State) (m : MethodId) (below : List Frame) (meth : Method) (c : Code) (A : Nat → Prop) (ls : Array Slot), CX p s m meth c cc maxL ret ws av y.cls y.name → (∀ q, s.heap.size ≤ q → A q) → va_K D vwCl (kT k) s → va_P D vwCl w s.heap → va_D A w → va_S A s.heap s.heap [] → lv_has ls maxL (lv_args 0 av) →
      W p l e rm s m av.toArray below meth c s.heap [] 0 0 (MQ below (Qc A) av.toArray s mc ms A) (F0 m 0 ls [])) :
    Met l y ws rm (va_Pc av (PR D k w sz)) (Qc (va_A w sz)) mc ms (va_A w sz) := by
  refine Met.ofW (cc := cc) (maxL := maxL) (ret := ret) hy hw ?_
  intro p e s m args below meth c s₁ B hml hv
  obtain ⟨rfl, hsz, hP, hK, hD0⟩ := hv
  have hts := atoms_spec (ws := ws) B.pre
  have hown : s.vm.findClass y.cls = some m.cls := findClass_of_methodNamed B.named
  have hin : meth.name = y.name := (name_of_methodNamed B.named B.method).1
  subst hsz
  have hD := hD0.self (sz := s.heap.size)
  have hl := lv_entry av (n := maxL) hle
  rw [lg_entry_eq]
  exact body p e s m below meth c (va_A w s.heap.size) _ ⟨B.exec, B.bytes, hml, B.returns, hts, hown, B.notSynchronized, hin⟩ (fun q h => Or.inr h) hK hP hD va_S.rf hl
theorem bodyOfX {Qc : (Nat → Prop) → Array Value → State → Outcome → State → Prop} {XC : (Nat → Prop) → String → State → State → Prop} (hy : plainName y.cls = true) (hw : ws = Cond.code y cc maxL ret :: ws') (hle : (lg_sl av).length ≤ maxL)
    (body : ∀ (p : Program) (e : Env) (s : State) (m : MethodId) (below : List Frame) (meth : Method) (c : Code) (A : Nat → Prop) (ls : Array Slot), CX p s m meth c cc maxL ret ws av y.cls y.name → (∀ x ∈ c.exceptionTable.toList, False) → ZZ A s s.heap → (∀ q, s.heap.size ≤ q → A q) → va_K D vwCl (kT k) s → va_P D vwCl w s.heap → va_D A w → va_S A s.heap s.heap [] → lv_has ls maxL (lv_args 0 av) →
      W p l e rm s m av.toArray below meth c s.heap [] 0 0 (vx_MQ below (Qc A) (XC A) av.toArray s mc ms A) (F0 m 0 ls [])) :
    vx_Met l y ws rm (va_Pc av (PX D k w sz)) (Qc (va_A w sz)) (XC (va_A w sz)) mc ms (va_A w sz) := by
  refine vx_ofW (cc := cc) (maxL := maxL) (ret := ret) hy hw ?_
  intro p e s m args below meth c s₁ B hml htab hv
  obtain ⟨rfl, ⟨hsz, hP, hK, hD0⟩, hZ⟩ := hv
  have hts := atoms_spec (ws := ws) B.pre
  have hown : s.vm.findClass y.cls = some m.cls := findClass_of_methodNamed B.named
  have hin : meth.name = y.name := (name_of_methodNamed B.named B.method).1
  subst hsz
  have hD := hD0.self (sz := s.heap.size)
  have hl := lv_entry av (n := maxL) hle
  rw [lg_entry_eq]
  exact body p e s m below meth c (va_A w s.heap.size) _ ⟨B.exec, B.bytes, hml, B.returns, hts, hown, B.notSynchronized, hin⟩ htab hZ (fun q h => Or.inr h) hK hP hD va_S.rf hl
end START
section ENDS
variable {p : Program} {l : Launch} {e : Env} {R : Room} {s : State} {m : MethodId} {below : List Frame} {meth : Method} {c : Code} {H : Heap} {locs : List Loc} {cells slots : Nat} {Q : State → Prop}
variable {cc bytes : ByteArray} {pc nL maxL index n mc ms ci q0 N : Nat} {ret ret2 : Option FieldType} {Ts ws : List Cond} {rm : Room} {av As rest st0 : List Value} {own nm C : String} {T : u_T} {fs : List Value} {y : MethodName} {ls : Array Slot} {b sz : Nat} {D : va_G} {k : Nat → ClassId} {A : Nat → Prop} {X B Y w w' : va_W}
theorem retI {post : Int32 → va_W → Prop} {v : Int32} (hc : CX p s m meth c cc nL (some .int) Ts av own nm) (hdg : decode cc pc = .ok (.ireturn, 1)) (hK : va_K D vwCl (kT k) s) (hP : va_P D vwCl w' H) (hD : va_D A w') (hS : va_S A s.heap H locs) (hpost : post v w') (h1 : cells ≤ mc) (h2 : slots ≤ ms) :
    W p l e R s m av.toArray below meth c H locs cells slots (MQ below (QI D k post A) av.toArray s mc ms A) (F0 m pc ls [.int v]) := by
  obtain ⟨hx, hb, -, hr, -, -, hlocks, -⟩ := hc
  exact W.widen h1 h2 (W.iret hx hb hr (fun t ht hW => ⟨⟨v, w', rfl, hpost, by rw [ht]; exact hP, va_K.moved hW.alike hK, hD⟩, hS.F ht⟩) hS.2.2 hdg hlocks)
theorem retIX {post : Int32 → va_W → Prop} {XC : String → State → State → Prop} {v : Int32} (hc : CX p s m meth c cc nL (some .int) Ts av own nm) (hdg : decode cc pc = .ok (.ireturn, 1)) (hK : va_K D vwCl (kT k) s) (hP : va_P D vwCl w' H) (hD : va_D A w') (hS : va_S A s.heap H locs) (hpost : post v w') (h1 : cells ≤ mc) (h2 : slots ≤ ms) :
    W p l e R s m av.toArray below meth c H locs cells slots (vx_MQ below (QI D k post A) XC av.toArray s mc ms A) (F0 m pc ls [.int v]) := by
  obtain ⟨hx, hb, -, hr, -, -, hlocks, -⟩ := hc
  exact vx_ret <| W.widen h1 h2 (W.iret hx hb hr (fun t ht hW => ⟨⟨v, w', rfl, hpost, by rw [ht]; exact hP, va_K.moved hW.alike hK, hD⟩, hS.F ht⟩) hS.2.2 hdg hlocks)
theorem retL {post : Int64 → va_W → Prop} {v : Int64} (hc : CX p s m meth c cc nL (some .long) Ts av own nm) (hdg : decode cc pc = .ok (.lreturn, 1)) (hK : va_K D vwCl (kT k) s) (hP : va_P D vwCl w' H) (hD : va_D A w') (hS : va_S A s.heap H locs) (hpost : post v w') (h1 : cells ≤ mc) (h2 : slots ≤ ms) :
    W p l e R s m av.toArray below meth c H locs cells slots (MQ below (QL D k post A) av.toArray s mc ms A) (F0 m pc ls [.long v]) := by
  obtain ⟨hx, hb, -, hr, -, -, hlocks, -⟩ := hc
  exact W.widen h1 h2 (W.lret hx hb hr (fun t ht hW => ⟨⟨v, w', rfl, hpost, by rw [ht]; exact hP, va_K.moved hW.alike hK, hD⟩, hS.F ht⟩) hS.2.2 hdg hlocks)
theorem retLX {post : Int64 → va_W → Prop} {XC : String → State → State → Prop} {v : Int64} (hc : CX p s m meth c cc nL (some .long) Ts av own nm) (hdg : decode cc pc = .ok (.lreturn, 1)) (hK : va_K D vwCl (kT k) s) (hP : va_P D vwCl w' H) (hD : va_D A w') (hS : va_S A s.heap H locs) (hpost : post v w') (h1 : cells ≤ mc) (h2 : slots ≤ ms) :
    W p l e R s m av.toArray below meth c H locs cells slots (vx_MQ below (QL D k post A) XC av.toArray s mc ms A) (F0 m pc ls [.long v]) := by
  obtain ⟨hx, hb, -, hr, -, -, hlocks, -⟩ := hc
  exact vx_ret <| W.widen h1 h2 (W.lret hx hb hr (fun t ht hW => ⟨⟨v, w', rfl, hpost, by rw [ht]; exact hP, va_K.moved hW.alike hK, hD⟩, hS.F ht⟩) hS.2.2 hdg hlocks)
theorem retZ {post : Int32 → va_W → Prop} {v : Int32} (hc : CX p s m meth c cc nL (some .boolean) Ts av own nm) (hdg : decode cc pc = .ok (.ireturn, 1)) (hK : va_K D vwCl (kT k) s) (hP : va_P D vwCl w' H) (hD : va_D A w') (hS : va_S A s.heap H locs) (hv : v = 0 ∨ v = 1) (hpost : post v w') (h1 : cells ≤ mc) (h2 : slots ≤ ms) :
    W p l e R s m av.toArray below meth c H locs cells slots (MQ below (QI D k post A) av.toArray s mc ms A) (F0 m pc ls [.int v]) := by
  obtain ⟨hx, hb, -, hr, -, -, hlocks, -⟩ := hc
  have hn : narrow .boolean (.int v) = .int v := by
    rcases hv with h | h <;> subst h <;> rfl
  exact W.widen h1 h2 (W.zret hx hb hr hn (fun t ht hW => ⟨⟨v, w', rfl, hpost, by rw [ht]; exact hP, va_K.moved hW.alike hK, hD⟩, hS.F ht⟩) hS.2.2 hdg hlocks)
theorem retV {post : va_W → Prop} (hc : CX p s m meth c cc nL none Ts av own nm) (hdg : decode cc pc = .ok (.return_, 1)) (hK : va_K D vwCl (kT k) s) (hP : va_P D vwCl w' H) (hD : va_D A w') (hS : va_S A s.heap H locs) (hpost : post w') (h1 : cells ≤ mc) (h2 : slots ≤ ms) :
    W p l e R s m av.toArray below meth c H locs cells slots (MQ below (QV D k post A) av.toArray s mc ms A) (F0 m pc ls []) := by
  obtain ⟨hx, hb, -, hr, -, -, hlocks, -⟩ := hc
  exact W.widen h1 h2 (W.vret hx hb hr (fun t ht hW => ⟨⟨w', rfl, hpost, by rw [ht]; exact hP, va_K.moved hW.alike hK, hD⟩, hS.F ht⟩) hS.2.2 hdg hlocks)
theorem retZX {post : Int32 → va_W → Prop} {XC : String → State → State → Prop} {v : Int32} (hc : CX p s m meth c cc nL (some .boolean) Ts av own nm) (hdg : decode cc pc = .ok (.ireturn, 1)) (hK : va_K D vwCl (kT k) s) (hP : va_P D vwCl w' H) (hD : va_D A w') (hS : va_S A s.heap H locs) (hv : v = 0 ∨ v = 1) (hpost : post v w') (h1 : cells ≤ mc) (h2 : slots ≤ ms) :
    W p l e R s m av.toArray below meth c H locs cells slots (vx_MQ below (QI D k post A) XC av.toArray s mc ms A) (F0 m pc ls [.int v]) := by
  obtain ⟨hx, hb, -, hr, -, -, hlocks, -⟩ := hc
  have hn : narrow .boolean (.int v) = .int v := by
    rcases hv with h | h <;> subst h <;> rfl
  exact vx_ret <| W.widen h1 h2 (W.zret hx hb hr hn (fun t ht hW => ⟨⟨v, w', rfl, hpost, by rw [ht]; exact hP, va_K.moved hW.alike hK, hD⟩, hS.F ht⟩) hS.2.2 hdg hlocks)
theorem retVX {post : va_W → Prop} {XC : String → State → State → Prop} (hc : CX p s m meth c cc nL none Ts av own nm) (hdg : decode cc pc = .ok (.return_, 1)) (hK : va_K D vwCl (kT k) s) (hP : va_P D vwCl w' H) (hD : va_D A w') (hS : va_S A s.heap H locs) (hpost : post w') (h1 : cells ≤ mc) (h2 : slots ≤ ms) :
    W p l e R s m av.toArray below meth c H locs cells slots (vx_MQ below (QV D k post A) XC av.toArray s mc ms A) (F0 m pc ls []) := by
  obtain ⟨hx, hb, -, hr, -, -, hlocks, -⟩ := hc
  exact vx_ret <| W.widen h1 h2 (W.vret hx hb hr (fun t ht hW => ⟨⟨w', rfl, hpost, by rw [ht]; exact hP, va_K.moved hW.alike hK, hD⟩, hS.F ht⟩) hS.2.2 hdg hlocks)
end ENDS
section CALLS
variable {p : Program} {l : Launch} {e : Env} {R : Room} {s : State} {m : MethodId} {below : List Frame} {meth : Method} {c : Code} {H : Heap} {locs : List Loc} {cells slots : Nat} {Q : State → Prop}
variable {cc bytes : ByteArray} {pc nL maxL index n mc ms ci q0 N : Nat} {ret ret2 : Option FieldType} {Ts ws : List Cond} {rm : Room} {av As rest st0 : List Value} {own nm C : String} {T : u_T} {fs : List Value} {y : MethodName} {ls : Array Slot} {b sz : Nat} {D : va_G} {k : Nat → ClassId} {A : Nat → Prop} {X B Y w w' : va_W}
theorem goVI {post : Int32 → va_W → Prop} (hc : CX p s m meth c cc nL ret Ts av own nm) (hM : MI l y ws rm D k B H.size (.ref b :: As) post mc ms) (cw : CallW R s av.toArray own C index y bytes maxL ret2 ws rm mc ms n) (hP : va_P D vwCl (X ++ (B ++ Y)) H) (hD : va_D A (X ++ (B ++ Y))) (hK : va_K D vwCl (kT k) s) (hS : va_S A s.heap H locs) (hA : ∀ q, s.heap.size ≤ q → A q)
    (hcl : vwCl[ci]? = some (C, T, N)) (he : B[q0]? = some (b, .inr (ci, fs))) (hn : As.length = n) (hl : ls.size = nL) (hstack : st0 = As.reverse ++ .ref b :: rest) (hrm : (rest.map fun v => v.category).sum ≤ 8) (hdg : decode cc pc = .ok (.invokevirtual index, 3)) (hf1 : cells + mc ≤ R.cells) (hf2 : slots + ms ≤ R.slots)
    (kk : ∀ (r : Int32) (B' : va_W) (H1 : Heap) (locs1 : List Loc), post r B' → va_P D vwCl (X ++ (B' ++ Y)) H1 → va_D A (X ++ (B' ++ Y)) → va_S A s.heap H1 locs1 → W p l e R s m av.toArray below meth c H1 locs1 (cells + mc) (slots + ms) Q (F0 m (pc + 3) ls (.int r :: rest))) : W p l e R s m av.toArray below meth c H locs cells slots Q (F0 m pc ls st0) := by
  obtain ⟨hx, hb, hml, -, hts, hown, -, -⟩ := hc
  have hF := blk_free (X := X) (B := B) (Y := Y) hD hS hA
  refine va_calli (va_runV (As := As) (rest := rest) ⟨hx, hb, hml, hown, hts⟩ hM cw ⟨PR.blind, va_recv hK (blk_P hP) hcl he, fun U hU hW => ⟨rfl, blk_pre hP hD hK hU hW⟩⟩ rfl hn hl hstack (lv_room hrm) hdg ⟨hf1, hf2⟩) hS (fun q _ h => hF q h) hF (fun r u t H1 locs1 ht hvm hw hB hz1 hk1 hS1 => ?_)
  obtain ⟨hP1, hK1, hD1⟩ := hB
  rw [ht] at hP1
  obtain ⟨g1, g2⟩ := blk_join hP hD hk1 hF hP1 hD1
  exact kk r u H1 locs1 hw g1 g2 hS1
theorem goVI0 {post : Int32 → va_W → Prop} (hc : CX p s m meth c cc nL ret Ts av own nm) (hM : MI l y ws rm D k B H.size (.ref b :: As) post mc ms) (cw : CallW R s av.toArray own C index y bytes maxL ret2 ws rm mc ms n) (hP : va_P D vwCl B H) (hD : va_D A B) (hK : va_K D vwCl (kT k) s) (hS : va_S A s.heap H locs) (hA : ∀ q, s.heap.size ≤ q → A q)
    (hcl : vwCl[ci]? = some (C, T, N)) (he : B[q0]? = some (b, .inr (ci, fs))) (hn : As.length = n) (hl : ls.size = nL) (hstack : st0 = As.reverse ++ .ref b :: rest) (hrm : (rest.map fun v => v.category).sum ≤ 8) (hdg : decode cc pc = .ok (.invokevirtual index, 3)) (hf1 : cells + mc ≤ R.cells) (hf2 : slots + ms ≤ R.slots)
    (kk : ∀ (r : Int32) (B' : va_W) (H1 : Heap) (locs1 : List Loc), post r B' → va_P D vwCl B' H1 → va_D A B' → va_S A s.heap H1 locs1 → W p l e R s m av.toArray below meth c H1 locs1 (cells + mc) (slots + ms) Q (F0 m (pc + 3) ls (.int r :: rest))) : W p l e R s m av.toArray below meth c H locs cells slots Q (F0 m pc ls st0) :=
  goVI (X := []) (Y := []) hc hM cw (by rw [List.nil_append, List.append_nil]; exact hP) (by rw [List.nil_append, List.append_nil]; exact hD) hK hS hA hcl he hn hl hstack hrm hdg hf1 hf2
    (fun r B' H1 locs1 h1 h2 h3 h4 => kk r B' H1 locs1 h1 (by rw [List.nil_append, List.append_nil] at h2; exact h2) (by rw [List.nil_append, List.append_nil] at h3; exact h3) h4)
theorem goSI {post : Int32 → va_W → Prop} (hc : CX p s m meth c cc nL ret Ts av own nm) (hM : MI l y ws rm D k [] H.size As post mc ms) (cw : CallB R s av.toArray own index y bytes maxL ret2 ws rm mc ms n ∧ (Cond.static y).before av.toArray s = true) (hP : va_P D vwCl w H) (hD : va_D A w) (hK : va_K D vwCl (kT k) s) (hS : va_S A s.heap H locs) (hA : ∀ q, s.heap.size ≤ q → A q)
    (hn : As.length = n) (hl : ls.size = nL) (hstack : st0 = As.reverse ++ rest) (hrm : (rest.map fun v => v.category).sum ≤ 8) (hdg : decode cc pc = .ok (.invokestatic index, 3)) (hf1 : cells + mc ≤ R.cells) (hf2 : slots + ms ≤ R.slots)
    (kk : ∀ (r : Int32) (B' : va_W) (H1 : Heap) (locs1 : List Loc), post r B' → va_P D vwCl w H1 → va_D A w → va_S A s.heap H1 locs1 → W p l e R s m av.toArray below meth c H1 locs1 (cells + mc) (slots + ms) Q (F0 m (pc + 3) ls (.int r :: rest))) : W p l e R s m av.toArray below meth c H locs cells slots Q (F0 m pc ls st0) := by
  obtain ⟨hx, hb, hml, -, hts, hown, -, -⟩ := hc
  have hF := nil_free hS hA
  refine va_calli (va_runS (As := As) (rest := rest) ⟨hx, hb, hml, hown, hts⟩ hM cw ⟨PR.blind, fun U hU hW => ⟨rfl, nil_pre hK hU hW⟩⟩ rfl hn hl hstack (lv_room hrm) hdg ⟨hf1, hf2⟩) hS (fun q _ h => hF q h) hF (fun r u t H1 locs1 ht hvm hw hB hz1 hk1 hS1 => ?_)
  exact kk r u H1 locs1 hw (nil_P hP hk1) hD hS1
theorem goXI {post : Int32 → va_W → Prop} {px : String → va_W → Prop} (hc : CX p s m meth c cc nL ret Ts av own nm) (hM : XI l y ws rm D k B H.size (.ref b :: As) post px mc ms) (cw : CallW R s av.toArray own C index y bytes maxL ret2 ws rm mc ms n) (hP : va_P D vwCl (X ++ (B ++ Y)) H) (hD : va_D A (X ++ (B ++ Y))) (hK : va_K D vwCl (kT k) s) (hZ : ZZ A s s.heap) (hS : va_S A s.heap H locs) (hA : ∀ q, s.heap.size ≤ q → A q)
    (hcl : vwCl[ci]? = some (C, T, N)) (he : B[q0]? = some (b, .inr (ci, fs))) (hn : As.length = n) (hl : ls.size = nL) (hstack : st0 = As.reverse ++ .ref b :: rest) (hrm : (rest.map fun v => v.category).sum ≤ 8) (hdg : decode cc pc = .ok (.invokevirtual index, 3)) (hf1 : cells + mc ≤ R.cells) (hf2 : slots + ms ≤ R.slots)
    (kx : ∀ (E : String) (ce : Cell) (q9 : Addr) (B' : va_W) (H1 : Heap) (locs1 : List Loc), px E B' → va_P D vwCl (X ++ (B' ++ Y)) H1 → va_D A (X ++ (B' ++ Y)) → va_S A s.heap H1 locs1 → H1[q9]? = some ce → ce.vm = .none → s.vm.findClass E = some ce.cls → vx_W p l e R s m av.toArray below meth c H1 locs1 (cells + mc) (slots + ms) Q (F0 m pc ls rest) q9)
    (kk : ∀ (r : Int32) (B' : va_W) (H1 : Heap) (locs1 : List Loc), post r B' → va_P D vwCl (X ++ (B' ++ Y)) H1 → va_D A (X ++ (B' ++ Y)) → va_S A s.heap H1 locs1 → W p l e R s m av.toArray below meth c H1 locs1 (cells + mc) (slots + ms) Q (F0 m (pc + 3) ls (.int r :: rest))) : W p l e R s m av.toArray below meth c H locs cells slots Q (F0 m pc ls st0) := by
  obtain ⟨hx, hb, hml, -, hts, hown, -, -⟩ := hc
  have hF := blk_free (X := X) (B := B) (Y := Y) hD hS hA
  refine vx_calli (vx_runV (As := As) (rest := rest) ⟨hx, hb, hml, hown, hts⟩ hM cw ⟨PX.blind, va_recv hK (blk_P hP) hcl he, fun U hU hW => ⟨rfl, blk_preX hP hD hK hZ hS hA hU hW⟩⟩ rfl hn hl hstack (lv_room hrm) hdg ⟨hf1, hf2⟩) hS (fun q _ h => hF q h) hF (fun q _ h => hF q h) (fun E ce q9 u t H1 locs1 ht hvm _ hB hz1 hk1 hS1 hce hcv hcc => ?_) (fun r u t H1 locs1 ht hvm hw hB hz1 hk1 hS1 => ?_)
  · obtain ⟨hpx, hP1, hK1, hD1⟩ := hB
    rw [ht] at hP1
    obtain ⟨g1, g2⟩ := blk_join hP hD hk1 hF hP1 hD1
    exact kx E ce q9 u H1 locs1 hpx g1 g2 hS1 hce hcv hcc
  · obtain ⟨hP1, hK1, hD1⟩ := hB
    rw [ht] at hP1
    obtain ⟨g1, g2⟩ := blk_join hP hD hk1 hF hP1 hD1
    exact kk r u H1 locs1 hw g1 g2 hS1
theorem goXI0 {post : Int32 → va_W → Prop} {px : String → va_W → Prop} (hc : CX p s m meth c cc nL ret Ts av own nm) (hM : XI l y ws rm D k B H.size (.ref b :: As) post px mc ms) (cw : CallW R s av.toArray own C index y bytes maxL ret2 ws rm mc ms n) (hP : va_P D vwCl B H) (hD : va_D A B) (hK : va_K D vwCl (kT k) s) (hZ : ZZ A s s.heap) (hS : va_S A s.heap H locs) (hA : ∀ q, s.heap.size ≤ q → A q)
    (hcl : vwCl[ci]? = some (C, T, N)) (he : B[q0]? = some (b, .inr (ci, fs))) (hn : As.length = n) (hl : ls.size = nL) (hstack : st0 = As.reverse ++ .ref b :: rest) (hrm : (rest.map fun v => v.category).sum ≤ 8) (hdg : decode cc pc = .ok (.invokevirtual index, 3)) (hf1 : cells + mc ≤ R.cells) (hf2 : slots + ms ≤ R.slots)
    (kx : ∀ (E : String) (ce : Cell) (q9 : Addr) (B' : va_W) (H1 : Heap) (locs1 : List Loc), px E B' → va_P D vwCl B' H1 → va_D A B' → va_S A s.heap H1 locs1 → H1[q9]? = some ce → ce.vm = .none → s.vm.findClass E = some ce.cls → vx_W p l e R s m av.toArray below meth c H1 locs1 (cells + mc) (slots + ms) Q (F0 m pc ls rest) q9)
    (kk : ∀ (r : Int32) (B' : va_W) (H1 : Heap) (locs1 : List Loc), post r B' → va_P D vwCl B' H1 → va_D A B' → va_S A s.heap H1 locs1 → W p l e R s m av.toArray below meth c H1 locs1 (cells + mc) (slots + ms) Q (F0 m (pc + 3) ls (.int r :: rest))) : W p l e R s m av.toArray below meth c H locs cells slots Q (F0 m pc ls st0) :=
  goXI (X := []) (Y := []) hc hM cw (by rw [List.nil_append, List.append_nil]; exact hP) (by rw [List.nil_append, List.append_nil]; exact hD) hK hZ hS hA hcl he hn hl hstack hrm hdg hf1 hf2
    (fun E ce q9 B' H1 locs1 h1 h2 h3 h4 h5 h6 h7 => kx E ce q9 B' H1 locs1 h1 (by rw [List.nil_append, List.append_nil] at h2; exact h2) (by rw [List.nil_append, List.append_nil] at h3; exact h3) h4 h5 h6 h7)
    (fun r B' H1 locs1 h1 h2 h3 h4 => kk r B' H1 locs1 h1 (by rw [List.nil_append, List.append_nil] at h2; exact h2) (by rw [List.nil_append, List.append_nil] at h3; exact h3) h4)
theorem goVL {post : Int64 → va_W → Prop} (hc : CX p s m meth c cc nL ret Ts av own nm) (hM : ML l y ws rm D k B H.size (.ref b :: As) post mc ms) (cw : CallW R s av.toArray own C index y bytes maxL ret2 ws rm mc ms n) (hP : va_P D vwCl (X ++ (B ++ Y)) H) (hD : va_D A (X ++ (B ++ Y))) (hK : va_K D vwCl (kT k) s) (hS : va_S A s.heap H locs) (hA : ∀ q, s.heap.size ≤ q → A q)
    (hcl : vwCl[ci]? = some (C, T, N)) (he : B[q0]? = some (b, .inr (ci, fs))) (hn : As.length = n) (hl : ls.size = nL) (hstack : st0 = As.reverse ++ .ref b :: rest) (hrm : (rest.map fun v => v.category).sum ≤ 8) (hdg : decode cc pc = .ok (.invokevirtual index, 3)) (hf1 : cells + mc ≤ R.cells) (hf2 : slots + ms ≤ R.slots)
    (kk : ∀ (r : Int64) (B' : va_W) (H1 : Heap) (locs1 : List Loc), post r B' → va_P D vwCl (X ++ (B' ++ Y)) H1 → va_D A (X ++ (B' ++ Y)) → va_S A s.heap H1 locs1 → W p l e R s m av.toArray below meth c H1 locs1 (cells + mc) (slots + ms) Q (F0 m (pc + 3) ls (.long r :: rest))) : W p l e R s m av.toArray below meth c H locs cells slots Q (F0 m pc ls st0) := by
  obtain ⟨hx, hb, hml, -, hts, hown, -, -⟩ := hc
  have hF := blk_free (X := X) (B := B) (Y := Y) hD hS hA
  refine va_calll (va_runV (As := As) (rest := rest) ⟨hx, hb, hml, hown, hts⟩ hM cw ⟨PR.blind, va_recv hK (blk_P hP) hcl he, fun U hU hW => ⟨rfl, blk_pre hP hD hK hU hW⟩⟩ rfl hn hl hstack (lv_room hrm) hdg ⟨hf1, hf2⟩) hS (fun q _ h => hF q h) hF (fun r u t H1 locs1 ht hvm hw hB hz1 hk1 hS1 => ?_)
  obtain ⟨hP1, hK1, hD1⟩ := hB
  rw [ht] at hP1
  obtain ⟨g1, g2⟩ := blk_join hP hD hk1 hF hP1 hD1
  exact kk r u H1 locs1 hw g1 g2 hS1
theorem goVL0 {post : Int64 → va_W → Prop} (hc : CX p s m meth c cc nL ret Ts av own nm) (hM : ML l y ws rm D k B H.size (.ref b :: As) post mc ms) (cw : CallW R s av.toArray own C index y bytes maxL ret2 ws rm mc ms n) (hP : va_P D vwCl B H) (hD : va_D A B) (hK : va_K D vwCl (kT k) s) (hS : va_S A s.heap H locs) (hA : ∀ q, s.heap.size ≤ q → A q)
    (hcl : vwCl[ci]? = some (C, T, N)) (he : B[q0]? = some (b, .inr (ci, fs))) (hn : As.length = n) (hl : ls.size = nL) (hstack : st0 = As.reverse ++ .ref b :: rest) (hrm : (rest.map fun v => v.category).sum ≤ 8) (hdg : decode cc pc = .ok (.invokevirtual index, 3)) (hf1 : cells + mc ≤ R.cells) (hf2 : slots + ms ≤ R.slots)
    (kk : ∀ (r : Int64) (B' : va_W) (H1 : Heap) (locs1 : List Loc), post r B' → va_P D vwCl B' H1 → va_D A B' → va_S A s.heap H1 locs1 → W p l e R s m av.toArray below meth c H1 locs1 (cells + mc) (slots + ms) Q (F0 m (pc + 3) ls (.long r :: rest))) : W p l e R s m av.toArray below meth c H locs cells slots Q (F0 m pc ls st0) :=
  goVL (X := []) (Y := []) hc hM cw (by rw [List.nil_append, List.append_nil]; exact hP) (by rw [List.nil_append, List.append_nil]; exact hD) hK hS hA hcl he hn hl hstack hrm hdg hf1 hf2
    (fun r B' H1 locs1 h1 h2 h3 h4 => kk r B' H1 locs1 h1 (by rw [List.nil_append, List.append_nil] at h2; exact h2) (by rw [List.nil_append, List.append_nil] at h3; exact h3) h4)
theorem goSL {post : Int64 → va_W → Prop} (hc : CX p s m meth c cc nL ret Ts av own nm) (hM : ML l y ws rm D k [] H.size As post mc ms) (cw : CallB R s av.toArray own index y bytes maxL ret2 ws rm mc ms n ∧ (Cond.static y).before av.toArray s = true) (hP : va_P D vwCl w H) (hD : va_D A w) (hK : va_K D vwCl (kT k) s) (hS : va_S A s.heap H locs) (hA : ∀ q, s.heap.size ≤ q → A q)
    (hn : As.length = n) (hl : ls.size = nL) (hstack : st0 = As.reverse ++ rest) (hrm : (rest.map fun v => v.category).sum ≤ 8) (hdg : decode cc pc = .ok (.invokestatic index, 3)) (hf1 : cells + mc ≤ R.cells) (hf2 : slots + ms ≤ R.slots)
    (kk : ∀ (r : Int64) (B' : va_W) (H1 : Heap) (locs1 : List Loc), post r B' → va_P D vwCl w H1 → va_D A w → va_S A s.heap H1 locs1 → W p l e R s m av.toArray below meth c H1 locs1 (cells + mc) (slots + ms) Q (F0 m (pc + 3) ls (.long r :: rest))) : W p l e R s m av.toArray below meth c H locs cells slots Q (F0 m pc ls st0) := by
  obtain ⟨hx, hb, hml, -, hts, hown, -, -⟩ := hc
  have hF := nil_free hS hA
  refine va_calll (va_runS (As := As) (rest := rest) ⟨hx, hb, hml, hown, hts⟩ hM cw ⟨PR.blind, fun U hU hW => ⟨rfl, nil_pre hK hU hW⟩⟩ rfl hn hl hstack (lv_room hrm) hdg ⟨hf1, hf2⟩) hS (fun q _ h => hF q h) hF (fun r u t H1 locs1 ht hvm hw hB hz1 hk1 hS1 => ?_)
  exact kk r u H1 locs1 hw (nil_P hP hk1) hD hS1
theorem goXL {post : Int64 → va_W → Prop} {px : String → va_W → Prop} (hc : CX p s m meth c cc nL ret Ts av own nm) (hM : XL l y ws rm D k B H.size (.ref b :: As) post px mc ms) (cw : CallW R s av.toArray own C index y bytes maxL ret2 ws rm mc ms n) (hP : va_P D vwCl (X ++ (B ++ Y)) H) (hD : va_D A (X ++ (B ++ Y))) (hK : va_K D vwCl (kT k) s) (hZ : ZZ A s s.heap) (hS : va_S A s.heap H locs) (hA : ∀ q, s.heap.size ≤ q → A q)
    (hcl : vwCl[ci]? = some (C, T, N)) (he : B[q0]? = some (b, .inr (ci, fs))) (hn : As.length = n) (hl : ls.size = nL) (hstack : st0 = As.reverse ++ .ref b :: rest) (hrm : (rest.map fun v => v.category).sum ≤ 8) (hdg : decode cc pc = .ok (.invokevirtual index, 3)) (hf1 : cells + mc ≤ R.cells) (hf2 : slots + ms ≤ R.slots)
    (kx : ∀ (E : String) (ce : Cell) (q9 : Addr) (B' : va_W) (H1 : Heap) (locs1 : List Loc), px E B' → va_P D vwCl (X ++ (B' ++ Y)) H1 → va_D A (X ++ (B' ++ Y)) → va_S A s.heap H1 locs1 → H1[q9]? = some ce → ce.vm = .none → s.vm.findClass E = some ce.cls → vx_W p l e R s m av.toArray below meth c H1 locs1 (cells + mc) (slots + ms) Q (F0 m pc ls rest) q9)
    (kk : ∀ (r : Int64) (B' : va_W) (H1 : Heap) (locs1 : List Loc), post r B' → va_P D vwCl (X ++ (B' ++ Y)) H1 → va_D A (X ++ (B' ++ Y)) → va_S A s.heap H1 locs1 → W p l e R s m av.toArray below meth c H1 locs1 (cells + mc) (slots + ms) Q (F0 m (pc + 3) ls (.long r :: rest))) : W p l e R s m av.toArray below meth c H locs cells slots Q (F0 m pc ls st0) := by
  obtain ⟨hx, hb, hml, -, hts, hown, -, -⟩ := hc
  have hF := blk_free (X := X) (B := B) (Y := Y) hD hS hA
  refine vx_calll (vx_runV (As := As) (rest := rest) ⟨hx, hb, hml, hown, hts⟩ hM cw ⟨PX.blind, va_recv hK (blk_P hP) hcl he, fun U hU hW => ⟨rfl, blk_preX hP hD hK hZ hS hA hU hW⟩⟩ rfl hn hl hstack (lv_room hrm) hdg ⟨hf1, hf2⟩) hS (fun q _ h => hF q h) hF (fun q _ h => hF q h) (fun E ce q9 u t H1 locs1 ht hvm _ hB hz1 hk1 hS1 hce hcv hcc => ?_) (fun r u t H1 locs1 ht hvm hw hB hz1 hk1 hS1 => ?_)
  · obtain ⟨hpx, hP1, hK1, hD1⟩ := hB
    rw [ht] at hP1
    obtain ⟨g1, g2⟩ := blk_join hP hD hk1 hF hP1 hD1
    exact kx E ce q9 u H1 locs1 hpx g1 g2 hS1 hce hcv hcc
  · obtain ⟨hP1, hK1, hD1⟩ := hB
    rw [ht] at hP1
    obtain ⟨g1, g2⟩ := blk_join hP hD hk1 hF hP1 hD1
    exact kk r u H1 locs1 hw g1 g2 hS1
theorem goXL0 {post : Int64 → va_W → Prop} {px : String → va_W → Prop} (hc : CX p s m meth c cc nL ret Ts av own nm) (hM : XL l y ws rm D k B H.size (.ref b :: As) post px mc ms) (cw : CallW R s av.toArray own C index y bytes maxL ret2 ws rm mc ms n) (hP : va_P D vwCl B H) (hD : va_D A B) (hK : va_K D vwCl (kT k) s) (hZ : ZZ A s s.heap) (hS : va_S A s.heap H locs) (hA : ∀ q, s.heap.size ≤ q → A q)
    (hcl : vwCl[ci]? = some (C, T, N)) (he : B[q0]? = some (b, .inr (ci, fs))) (hn : As.length = n) (hl : ls.size = nL) (hstack : st0 = As.reverse ++ .ref b :: rest) (hrm : (rest.map fun v => v.category).sum ≤ 8) (hdg : decode cc pc = .ok (.invokevirtual index, 3)) (hf1 : cells + mc ≤ R.cells) (hf2 : slots + ms ≤ R.slots)
    (kx : ∀ (E : String) (ce : Cell) (q9 : Addr) (B' : va_W) (H1 : Heap) (locs1 : List Loc), px E B' → va_P D vwCl B' H1 → va_D A B' → va_S A s.heap H1 locs1 → H1[q9]? = some ce → ce.vm = .none → s.vm.findClass E = some ce.cls → vx_W p l e R s m av.toArray below meth c H1 locs1 (cells + mc) (slots + ms) Q (F0 m pc ls rest) q9)
    (kk : ∀ (r : Int64) (B' : va_W) (H1 : Heap) (locs1 : List Loc), post r B' → va_P D vwCl B' H1 → va_D A B' → va_S A s.heap H1 locs1 → W p l e R s m av.toArray below meth c H1 locs1 (cells + mc) (slots + ms) Q (F0 m (pc + 3) ls (.long r :: rest))) : W p l e R s m av.toArray below meth c H locs cells slots Q (F0 m pc ls st0) :=
  goXL (X := []) (Y := []) hc hM cw (by rw [List.nil_append, List.append_nil]; exact hP) (by rw [List.nil_append, List.append_nil]; exact hD) hK hZ hS hA hcl he hn hl hstack hrm hdg hf1 hf2
    (fun E ce q9 B' H1 locs1 h1 h2 h3 h4 h5 h6 h7 => kx E ce q9 B' H1 locs1 h1 (by rw [List.nil_append, List.append_nil] at h2; exact h2) (by rw [List.nil_append, List.append_nil] at h3; exact h3) h4 h5 h6 h7)
    (fun r B' H1 locs1 h1 h2 h3 h4 => kk r B' H1 locs1 h1 (by rw [List.nil_append, List.append_nil] at h2; exact h2) (by rw [List.nil_append, List.append_nil] at h3; exact h3) h4)
theorem goVV {post : va_W → Prop} (hc : CX p s m meth c cc nL ret Ts av own nm) (hM : MV l y ws rm D k B H.size (.ref b :: As) post mc ms) (cw : CallW R s av.toArray own C index y bytes maxL ret2 ws rm mc ms n) (hP : va_P D vwCl (X ++ (B ++ Y)) H) (hD : va_D A (X ++ (B ++ Y))) (hK : va_K D vwCl (kT k) s) (hS : va_S A s.heap H locs) (hA : ∀ q, s.heap.size ≤ q → A q)
    (hcl : vwCl[ci]? = some (C, T, N)) (he : B[q0]? = some (b, .inr (ci, fs))) (hn : As.length = n) (hl : ls.size = nL) (hstack : st0 = As.reverse ++ .ref b :: rest) (hrm : (rest.map fun v => v.category).sum ≤ 8) (hdg : decode cc pc = .ok (.invokevirtual index, 3)) (hf1 : cells + mc ≤ R.cells) (hf2 : slots + ms ≤ R.slots)
    (kk : ∀ (B' : va_W) (H1 : Heap) (locs1 : List Loc), post B' → va_P D vwCl (X ++ (B' ++ Y)) H1 → va_D A (X ++ (B' ++ Y)) → va_S A s.heap H1 locs1 → W p l e R s m av.toArray below meth c H1 locs1 (cells + mc) (slots + ms) Q (F0 m (pc + 3) ls rest)) : W p l e R s m av.toArray below meth c H locs cells slots Q (F0 m pc ls st0) := by
  obtain ⟨hx, hb, hml, -, hts, hown, -, -⟩ := hc
  have hF := blk_free (X := X) (B := B) (Y := Y) hD hS hA
  refine va_callv (va_runV (As := As) (rest := rest) ⟨hx, hb, hml, hown, hts⟩ hM cw ⟨PR.blind, va_recv hK (blk_P hP) hcl he, fun U hU hW => ⟨rfl, blk_pre hP hD hK hU hW⟩⟩ rfl hn hl hstack (lv_room hrm) hdg ⟨hf1, hf2⟩) hS (fun q _ h => hF q h) hF (fun u t H1 locs1 ht hvm hw hB hz1 hk1 hS1 => ?_)
  obtain ⟨hP1, hK1, hD1⟩ := hB
  rw [ht] at hP1
  obtain ⟨g1, g2⟩ := blk_join hP hD hk1 hF hP1 hD1
  exact kk u H1 locs1 hw g1 g2 hS1
theorem goVV0 {post : va_W → Prop} (hc : CX p s m meth c cc nL ret Ts av own nm) (hM : MV l y ws rm D k B H.size (.ref b :: As) post mc ms) (cw : CallW R s av.toArray own C index y bytes maxL ret2 ws rm mc ms n) (hP : va_P D vwCl B H) (hD : va_D A B) (hK : va_K D vwCl (kT k) s) (hS : va_S A s.heap H locs) (hA : ∀ q, s.heap.size ≤ q → A q)
    (hcl : vwCl[ci]? = some (C, T, N)) (he : B[q0]? = some (b, .inr (ci, fs))) (hn : As.length = n) (hl : ls.size = nL) (hstack : st0 = As.reverse ++ .ref b :: rest) (hrm : (rest.map fun v => v.category).sum ≤ 8) (hdg : decode cc pc = .ok (.invokevirtual index, 3)) (hf1 : cells + mc ≤ R.cells) (hf2 : slots + ms ≤ R.slots)
    (kk : ∀ (B' : va_W) (H1 : Heap) (locs1 : List Loc), post B' → va_P D vwCl B' H1 → va_D A B' → va_S A s.heap H1 locs1 → W p l e R s m av.toArray below meth c H1 locs1 (cells + mc) (slots + ms) Q (F0 m (pc + 3) ls rest)) : W p l e R s m av.toArray below meth c H locs cells slots Q (F0 m pc ls st0) :=
  goVV (X := []) (Y := []) hc hM cw (by rw [List.nil_append, List.append_nil]; exact hP) (by rw [List.nil_append, List.append_nil]; exact hD) hK hS hA hcl he hn hl hstack hrm hdg hf1 hf2
    (fun B' H1 locs1 h1 h2 h3 h4 => kk B' H1 locs1 h1 (by rw [List.nil_append, List.append_nil] at h2; exact h2) (by rw [List.nil_append, List.append_nil] at h3; exact h3) h4)
theorem goSV {post : va_W → Prop} (hc : CX p s m meth c cc nL ret Ts av own nm) (hM : MV l y ws rm D k [] H.size As post mc ms) (cw : CallB R s av.toArray own index y bytes maxL ret2 ws rm mc ms n ∧ (Cond.static y).before av.toArray s = true) (hP : va_P D vwCl w H) (hD : va_D A w) (hK : va_K D vwCl (kT k) s) (hS : va_S A s.heap H locs) (hA : ∀ q, s.heap.size ≤ q → A q)
    (hn : As.length = n) (hl : ls.size = nL) (hstack : st0 = As.reverse ++ rest) (hrm : (rest.map fun v => v.category).sum ≤ 8) (hdg : decode cc pc = .ok (.invokestatic index, 3)) (hf1 : cells + mc ≤ R.cells) (hf2 : slots + ms ≤ R.slots)
    (kk : ∀ (B' : va_W) (H1 : Heap) (locs1 : List Loc), post B' → va_P D vwCl w H1 → va_D A w → va_S A s.heap H1 locs1 → W p l e R s m av.toArray below meth c H1 locs1 (cells + mc) (slots + ms) Q (F0 m (pc + 3) ls rest)) : W p l e R s m av.toArray below meth c H locs cells slots Q (F0 m pc ls st0) := by
  obtain ⟨hx, hb, hml, -, hts, hown, -, -⟩ := hc
  have hF := nil_free hS hA
  refine va_callv (va_runS (As := As) (rest := rest) ⟨hx, hb, hml, hown, hts⟩ hM cw ⟨PR.blind, fun U hU hW => ⟨rfl, nil_pre hK hU hW⟩⟩ rfl hn hl hstack (lv_room hrm) hdg ⟨hf1, hf2⟩) hS (fun q _ h => hF q h) hF (fun u t H1 locs1 ht hvm hw hB hz1 hk1 hS1 => ?_)
  exact kk u H1 locs1 hw (nil_P hP hk1) hD hS1
theorem goXV {post : va_W → Prop} {px : String → va_W → Prop} (hc : CX p s m meth c cc nL ret Ts av own nm) (hM : XV l y ws rm D k B H.size (.ref b :: As) post px mc ms) (cw : CallW R s av.toArray own C index y bytes maxL ret2 ws rm mc ms n) (hP : va_P D vwCl (X ++ (B ++ Y)) H) (hD : va_D A (X ++ (B ++ Y))) (hK : va_K D vwCl (kT k) s) (hZ : ZZ A s s.heap) (hS : va_S A s.heap H locs) (hA : ∀ q, s.heap.size ≤ q → A q)
    (hcl : vwCl[ci]? = some (C, T, N)) (he : B[q0]? = some (b, .inr (ci, fs))) (hn : As.length = n) (hl : ls.size = nL) (hstack : st0 = As.reverse ++ .ref b :: rest) (hrm : (rest.map fun v => v.category).sum ≤ 8) (hdg : decode cc pc = .ok (.invokevirtual index, 3)) (hf1 : cells + mc ≤ R.cells) (hf2 : slots + ms ≤ R.slots)
    (kx : ∀ (E : String) (ce : Cell) (q9 : Addr) (B' : va_W) (H1 : Heap) (locs1 : List Loc), px E B' → va_P D vwCl (X ++ (B' ++ Y)) H1 → va_D A (X ++ (B' ++ Y)) → va_S A s.heap H1 locs1 → H1[q9]? = some ce → ce.vm = .none → s.vm.findClass E = some ce.cls → vx_W p l e R s m av.toArray below meth c H1 locs1 (cells + mc) (slots + ms) Q (F0 m pc ls rest) q9)
    (kk : ∀ (B' : va_W) (H1 : Heap) (locs1 : List Loc), post B' → va_P D vwCl (X ++ (B' ++ Y)) H1 → va_D A (X ++ (B' ++ Y)) → va_S A s.heap H1 locs1 → W p l e R s m av.toArray below meth c H1 locs1 (cells + mc) (slots + ms) Q (F0 m (pc + 3) ls rest)) : W p l e R s m av.toArray below meth c H locs cells slots Q (F0 m pc ls st0) := by
  obtain ⟨hx, hb, hml, -, hts, hown, -, -⟩ := hc
  have hF := blk_free (X := X) (B := B) (Y := Y) hD hS hA
  refine vx_callv (vx_runV (As := As) (rest := rest) ⟨hx, hb, hml, hown, hts⟩ hM cw ⟨PX.blind, va_recv hK (blk_P hP) hcl he, fun U hU hW => ⟨rfl, blk_preX hP hD hK hZ hS hA hU hW⟩⟩ rfl hn hl hstack (lv_room hrm) hdg ⟨hf1, hf2⟩) hS (fun q _ h => hF q h) hF (fun q _ h => hF q h) (fun E ce q9 u t H1 locs1 ht hvm _ hB hz1 hk1 hS1 hce hcv hcc => ?_) (fun u t H1 locs1 ht hvm hw hB hz1 hk1 hS1 => ?_)
  · obtain ⟨hpx, hP1, hK1, hD1⟩ := hB
    rw [ht] at hP1
    obtain ⟨g1, g2⟩ := blk_join hP hD hk1 hF hP1 hD1
    exact kx E ce q9 u H1 locs1 hpx g1 g2 hS1 hce hcv hcc
  · obtain ⟨hP1, hK1, hD1⟩ := hB
    rw [ht] at hP1
    obtain ⟨g1, g2⟩ := blk_join hP hD hk1 hF hP1 hD1
    exact kk u H1 locs1 hw g1 g2 hS1
theorem goXV0 {post : va_W → Prop} {px : String → va_W → Prop} (hc : CX p s m meth c cc nL ret Ts av own nm) (hM : XV l y ws rm D k B H.size (.ref b :: As) post px mc ms) (cw : CallW R s av.toArray own C index y bytes maxL ret2 ws rm mc ms n) (hP : va_P D vwCl B H) (hD : va_D A B) (hK : va_K D vwCl (kT k) s) (hZ : ZZ A s s.heap) (hS : va_S A s.heap H locs) (hA : ∀ q, s.heap.size ≤ q → A q)
    (hcl : vwCl[ci]? = some (C, T, N)) (he : B[q0]? = some (b, .inr (ci, fs))) (hn : As.length = n) (hl : ls.size = nL) (hstack : st0 = As.reverse ++ .ref b :: rest) (hrm : (rest.map fun v => v.category).sum ≤ 8) (hdg : decode cc pc = .ok (.invokevirtual index, 3)) (hf1 : cells + mc ≤ R.cells) (hf2 : slots + ms ≤ R.slots)
    (kx : ∀ (E : String) (ce : Cell) (q9 : Addr) (B' : va_W) (H1 : Heap) (locs1 : List Loc), px E B' → va_P D vwCl B' H1 → va_D A B' → va_S A s.heap H1 locs1 → H1[q9]? = some ce → ce.vm = .none → s.vm.findClass E = some ce.cls → vx_W p l e R s m av.toArray below meth c H1 locs1 (cells + mc) (slots + ms) Q (F0 m pc ls rest) q9)
    (kk : ∀ (B' : va_W) (H1 : Heap) (locs1 : List Loc), post B' → va_P D vwCl B' H1 → va_D A B' → va_S A s.heap H1 locs1 → W p l e R s m av.toArray below meth c H1 locs1 (cells + mc) (slots + ms) Q (F0 m (pc + 3) ls rest)) : W p l e R s m av.toArray below meth c H locs cells slots Q (F0 m pc ls st0) :=
  goXV (X := []) (Y := []) hc hM cw (by rw [List.nil_append, List.append_nil]; exact hP) (by rw [List.nil_append, List.append_nil]; exact hD) hK hZ hS hA hcl he hn hl hstack hrm hdg hf1 hf2
    (fun E ce q9 B' H1 locs1 h1 h2 h3 h4 h5 h6 h7 => kx E ce q9 B' H1 locs1 h1 (by rw [List.nil_append, List.append_nil] at h2; exact h2) (by rw [List.nil_append, List.append_nil] at h3; exact h3) h4 h5 h6 h7)
    (fun B' H1 locs1 h1 h2 h3 h4 => kk B' H1 locs1 h1 (by rw [List.nil_append, List.append_nil] at h2; exact h2) (by rw [List.nil_append, List.append_nil] at h3; exact h3) h4)
theorem outX {Qc : Array Value → State → Outcome → State → Prop} {px : String → va_W → Prop} {E : String} {ce : Cell} {q9 : Addr} (hc : CX p s m meth c cc nL ret Ts av own nm) (htab : ∀ x ∈ c.exceptionTable.toList, False) (hK : va_K D vwCl (kT k) s) (hP : va_P D vwCl w' H) (hD : va_D A w') (hS : va_S A s.heap H locs) (hce : H[q9]? = some ce) (hv : ce.vm = .none) (hcl : s.vm.findClass E = some ce.cls) (hpx : px E w') (h1 : cells ≤ mc) (h2 : slots ≤ ms) :
    vx_W p l e R s m av.toArray below meth c H locs cells slots (vx_MQ below Qc (QX D k px A) av.toArray s mc ms A) (F0 m pc ls rest) q9 :=
  vx_out (fun x hx => (htab x hx).elim) hc.2.2.2.2.2.2.1 hce hv hcl (fun t ht hW => ⟨w', trivial, ⟨hpx, by rw [ht]; exact hP, va_K.moved hW hK, hD⟩, hS.F ht⟩) hS.2.2 h1 h2
end CALLS
end
