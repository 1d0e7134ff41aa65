/-! The law's helpers: a call of the class, its exceptions taken. -/
def oc (ob : Nat) (k : Nat → ClassId) (ov : Nat → Int64) : Nat × va_E := (ob, .inl (k 2, 1, .inr (.inl ov)))
abbrev NC (U : State) : Prop := va_Nc "java/lang/IllegalStateException" "java/lang/IllegalArgumentException" U
def PH (D : va_G) (k : Nat → ClassId) (w : va_W) (sz : Nat) (U : State) : Prop := PX D k w sz U ∧ NC U
theorem PH.blind {D : va_G} {k : Nat → ClassId} {w : va_W} {sz : Nat} {av : List Value} : FrameBlind (va_Pc av (PH D k w sz)) := fun a U g mk q => ⟨q.1, q.2.1.calling g mk a, va_Nc.moved (u := U) (U := U.calling g mk a) (Vm.Alike.refl U.vm) q.2.2⟩
abbrev MH (l : Launch) (y : MethodName) (ws : List Cond) (rm : Room) (D : va_G) (k : Nat → ClassId) (w : va_W) (sz : Nat) (av : List Value) (post : Int32 → va_W → Prop) (mc ms : Nat) : Prop := Met l y ws rm (va_Pc av (PH D k w sz)) (QI D k post (va_A w sz)) mc ms (va_A w sz)
section START3
variable {l : Launch} {y : MethodName} {ws ws' : List Cond} {rm : Room} {D : va_G} {k : Nat → ClassId} {w : va_W} {sz mc ms : Nat} {av : List Value} {cc : ByteArray} {maxL : Nat} {ret : Option FieldType}
theorem bodyOfH {hh : List (Nat × Nat × Nat × Nat)} {Qc : (Nat → Prop) → Array Value → State → Outcome → State → Prop} (hy : plainName y.cls = true) (hw : ws = Cond.codeWith y cc maxL ret hh :: ws') (hle : (lg_sl av).length ≤ maxL)
    (body : ∀ (p : Program) (e : Env) (s : State) (m : MethodId) (below : List Frame) (meth : Method) (c : Code) (A : Nat → Prop) (ls : Array Slot), CX p s m meth c cc maxL ret ws av y.cls y.name → c.exceptionTable.toList = tableOf hh → ZZ A s s.heap → NC s → (∀ q, s.heap.size ≤ q → A q) → va_K D vwCl (kT k) s → va_P D vwCl w s.heap → va_D A w → va_S A s.heap s.heap [] → lv_has ls maxL (lv_args 0 av) →
      W p l e rm s m av.toArray below meth c s.heap [] 0 0 (MQ below (Qc A) av.toArray s mc ms A) (F0 m 0 ls [])) :
    Met l y ws rm (va_Pc av (PH D k w sz)) (Qc (va_A w sz)) mc ms (va_A w sz) := by
  refine va_MetW (hh := hh) (cc := cc) (maxL := maxL) (ret := ret) hy hw ?_
  intro p e s m args below meth c s₁ B hml hv
  obtain ⟨rfl, ⟨⟨hsz, hP, hK, hD0⟩, hZ⟩, hN⟩ := hv
  have hts := atoms_spec (ws := ws) B.pre
  have htab := vx_table (x := y) B (hts _ (by rw [hw]; exact List.mem_cons_self))
  have hown : s.vm.findClass y.cls = some m.cls := findClass_of_methodNamed B.named
  have hin : meth.name = y.name := (name_of_methodNamed B.named B.method).1
  subst hsz
  have hD := hD0.self (sz := s.heap.size)
  have hl := lv_entry av (n := maxL) hle
  rw [lg_entry_eq]
  exact body p e s m below meth c (va_A w s.heap.size) _ ⟨B.exec, B.bytes, hml, B.returns, hts, hown, B.notSynchronized, hin⟩ htab hZ hN (fun q h => Or.inr h) hK hP hD va_S.rf hl
end START3
section CALLS3
variable {p : Program} {l : Launch} {e : Env} {R : Room} {s : State} {m : MethodId} {below : List Frame} {meth : Method} {c : Code} {H : Heap} {locs : List Loc} {cells slots : Nat} {Q : State → Prop}
variable {cc bytes : ByteArray} {pc nL maxL index n mc ms ci q0 N : Nat} {ret ret2 : Option FieldType} {Ts ws : List Cond} {rm : Room} {av As rest st0 : List Value} {own nm C : String} {T : u_T} {fs : List Value} {y : MethodName} {ls : Array Slot} {b : Nat} {D : va_G} {k : Nat → ClassId} {A : Nat → Prop} {X B Y : va_W}
theorem goXI1 {post : Int32 → va_W → Prop} {px : String → va_W → Prop} (hc : CX p s m meth c cc nL ret Ts av own nm) (hM : XI l y ws rm D k B H.size (.ref b :: As) post px mc ms) (cw : CallW R s av.toArray own C index y bytes maxL ret2 ws rm mc ms n) (hP : va_P D vwCl (X ++ B) H) (hD : va_D A (X ++ B)) (hK : va_K D vwCl (kT k) s) (hZ : ZZ A s s.heap) (hS : va_S A s.heap H locs) (hA : ∀ q, s.heap.size ≤ q → A q)
    (hcl : vwCl[ci]? = some (C, T, N)) (he : B[q0]? = some (b, .inr (ci, fs))) (hn : As.length = n) (hl : ls.size = nL) (hstack : st0 = As.reverse ++ .ref b :: rest) (hrm : (rest.map fun v => v.category).sum ≤ 8) (hdg : decode cc pc = .ok (.invokevirtual index, 3)) (hf1 : cells + mc ≤ R.cells) (hf2 : slots + ms ≤ R.slots)
    (kx : ∀ (E : String) (ce : Cell) (q9 : Addr) (B' : va_W) (H1 : Heap) (locs1 : List Loc), px E B' → va_P D vwCl (X ++ B') H1 → va_D A (X ++ B') → va_S A s.heap H1 locs1 → H1[q9]? = some ce → ce.vm = .none → s.vm.findClass E = some ce.cls → vx_W p l e R s m av.toArray below meth c H1 locs1 (cells + mc) (slots + ms) Q (F0 m pc ls rest) q9)
    (kk : ∀ (r : Int32) (B' : va_W) (H1 : Heap) (locs1 : List Loc), post r B' → va_P D vwCl (X ++ B') H1 → va_D A (X ++ B') → va_S A s.heap H1 locs1 → W p l e R s m av.toArray below meth c H1 locs1 (cells + mc) (slots + ms) Q (F0 m (pc + 3) ls (.int r :: rest))) : W p l e R s m av.toArray below meth c H locs cells slots Q (F0 m pc ls st0) :=
  goXI (X := X) (Y := []) hc hM cw (by rw [List.append_nil]; exact hP) (by rw [List.append_nil]; exact hD) hK hZ hS hA hcl he hn hl hstack hrm hdg hf1 hf2
    (fun E ce q9 B' H1 locs1 h1 h2 h3 h4 h5 h6 h7 => kx E ce q9 B' H1 locs1 h1 (by rw [List.append_nil] at h2; exact h2) (by rw [List.append_nil] at h3; exact h3) h4 h5 h6 h7)
    (fun r B' H1 locs1 h1 h2 h3 h4 => kk r B' H1 locs1 h1 (by rw [List.append_nil] at h2; exact h2) (by rw [List.append_nil] at h3; exact h3) h4)
theorem goXL1 {post : Int64 → va_W → Prop} {px : String → va_W → Prop} (hc : CX p s m meth c cc nL ret Ts av own nm) (hM : XL l y ws rm D k B H.size (.ref b :: As) post px mc ms) (cw : CallW R s av.toArray own C index y bytes maxL ret2 ws rm mc ms n) (hP : va_P D vwCl (X ++ B) H) (hD : va_D A (X ++ B)) (hK : va_K D vwCl (kT k) s) (hZ : ZZ A s s.heap) (hS : va_S A s.heap H locs) (hA : ∀ q, s.heap.size ≤ q → A q)
    (hcl : vwCl[ci]? = some (C, T, N)) (he : B[q0]? = some (b, .inr (ci, fs))) (hn : As.length = n) (hl : ls.size = nL) (hstack : st0 = As.reverse ++ .ref b :: rest) (hrm : (rest.map fun v => v.category).sum ≤ 8) (hdg : decode cc pc = .ok (.invokevirtual index, 3)) (hf1 : cells + mc ≤ R.cells) (hf2 : slots + ms ≤ R.slots)
    (kx : ∀ (E : String) (ce : Cell) (q9 : Addr) (B' : va_W) (H1 : Heap) (locs1 : List Loc), px E B' → va_P D vwCl (X ++ B') H1 → va_D A (X ++ B') → va_S A s.heap H1 locs1 → H1[q9]? = some ce → ce.vm = .none → s.vm.findClass E = some ce.cls → vx_W p l e R s m av.toArray below meth c H1 locs1 (cells + mc) (slots + ms) Q (F0 m pc ls rest) q9)
    (kk : ∀ (r : Int64) (B' : va_W) (H1 : Heap) (locs1 : List Loc), post r B' → va_P D vwCl (X ++ B') H1 → va_D A (X ++ B') → va_S A s.heap H1 locs1 → W p l e R s m av.toArray below meth c H1 locs1 (cells + mc) (slots + ms) Q (F0 m (pc + 3) ls (.long r :: rest))) : W p l e R s m av.toArray below meth c H locs cells slots Q (F0 m pc ls st0) :=
  goXL (X := X) (Y := []) hc hM cw (by rw [List.append_nil]; exact hP) (by rw [List.append_nil]; exact hD) hK hZ hS hA hcl he hn hl hstack hrm hdg hf1 hf2
    (fun E ce q9 B' H1 locs1 h1 h2 h3 h4 h5 h6 h7 => kx E ce q9 B' H1 locs1 h1 (by rw [List.append_nil] at h2; exact h2) (by rw [List.append_nil] at h3; exact h3) h4 h5 h6 h7)
    (fun r B' H1 locs1 h1 h2 h3 h4 => kk r B' H1 locs1 h1 (by rw [List.append_nil] at h2; exact h2) (by rw [List.append_nil] at h3; exact h3) h4)
theorem goXV1 {post : va_W → Prop} {px : String → va_W → Prop} (hc : CX p s m meth c cc nL ret Ts av own nm) (hM : XV l y ws rm D k B H.size (.ref b :: As) post px mc ms) (cw : CallW R s av.toArray own C index y bytes maxL ret2 ws rm mc ms n) (hP : va_P D vwCl (X ++ B) H) (hD : va_D A (X ++ B)) (hK : va_K D vwCl (kT k) s) (hZ : ZZ A s s.heap) (hS : va_S A s.heap H locs) (hA : ∀ q, s.heap.size ≤ q → A q)
    (hcl : vwCl[ci]? = some (C, T, N)) (he : B[q0]? = some (b, .inr (ci, fs))) (hn : As.length = n) (hl : ls.size = nL) (hstack : st0 = As.reverse ++ .ref b :: rest) (hrm : (rest.map fun v => v.category).sum ≤ 8) (hdg : decode cc pc = .ok (.invokevirtual index, 3)) (hf1 : cells + mc ≤ R.cells) (hf2 : slots + ms ≤ R.slots)
    (kx : ∀ (E : String) (ce : Cell) (q9 : Addr) (B' : va_W) (H1 : Heap) (locs1 : List Loc), px E B' → va_P D vwCl (X ++ B') H1 → va_D A (X ++ B') → va_S A s.heap H1 locs1 → H1[q9]? = some ce → ce.vm = .none → s.vm.findClass E = some ce.cls → vx_W p l e R s m av.toArray below meth c H1 locs1 (cells + mc) (slots + ms) Q (F0 m pc ls rest) q9)
    (kk : ∀ (B' : va_W) (H1 : Heap) (locs1 : List Loc), post B' → va_P D vwCl (X ++ B') H1 → va_D A (X ++ B') → va_S A s.heap H1 locs1 → W p l e R s m av.toArray below meth c H1 locs1 (cells + mc) (slots + ms) Q (F0 m (pc + 3) ls (rest))) : W p l e R s m av.toArray below meth c H locs cells slots Q (F0 m pc ls st0) :=
  goXV (X := X) (Y := []) hc hM cw (by rw [List.append_nil]; exact hP) (by rw [List.append_nil]; exact hD) hK hZ hS hA hcl he hn hl hstack hrm hdg hf1 hf2
    (fun E ce q9 B' H1 locs1 h1 h2 h3 h4 h5 h6 h7 => kx E ce q9 B' H1 locs1 h1 (by rw [List.append_nil] at h2; exact h2) (by rw [List.append_nil] at h3; exact h3) h4 h5 h6 h7)
    (fun B' H1 locs1 h1 h2 h3 h4 => kk B' H1 locs1 h1 (by rw [List.append_nil] at h2; exact h2) (by rw [List.append_nil] at h3; exact h3) h4)
/-- a helper's call -/
theorem goH {post : Int32 → va_W → Prop} {hh : List (Nat × Nat × Nat × Nat)} (hc : CX p s m meth c cc nL ret Ts av own nm) (hM : MH l y ws rm D k B H.size As post mc ms) (cw : vx_CSW R s av.toArray own index y bytes maxL ret2 hh ws rm mc ms n) (hP : va_P D vwCl (X ++ (B ++ Y)) H) (hD : va_D A (X ++ (B ++ Y))) (hK : va_K D vwCl (kT k) s) (hZ : ZZ A s s.heap) (hN : NC s) (hS : va_S A s.heap H locs) (hA : ∀ q, s.heap.size ≤ q → A q)
    (hn : As.length = n) (hl : ls.size = nL) (hstack : st0 = As.reverse ++ rest) (hrm : (rest.map fun v => v.category).sum ≤ 8) (hdg : decode cc pc = .ok (.invokestatic index, 3)) (hf1 : cells + mc ≤ R.cells) (hf2 : slots + ms ≤ R.slots)
    (kk : ∀ (r : Int32) (B' : va_W) (H1 : Heap) (locs1 : List Loc), post r B' → va_P D vwCl (X ++ (B' ++ Y)) H1 → va_D A (X ++ (B' ++ Y)) → va_S A s.heap H1 locs1 → W p l e R s m av.toArray below meth c H1 locs1 (cells + mc) (slots + ms) Q (F0 m (pc + 3) ls (.int r :: rest))) : W p l e R s m av.toArray below meth c H locs cells slots Q (F0 m pc ls st0) := by
  obtain ⟨hx, hb, hml, -, hts, hown, -, -⟩ := hc
  have hF := blk_free (X := X) (B := B) (Y := Y) hD hS hA
  refine va_calli (vx_runSW (As := As) (rest := rest) ⟨hx, hb, hml, hown, hts⟩ hM cw ⟨PH.blind, fun U hU hW => ⟨rfl, blk_preX hP hD hK hZ hS hA hU hW, va_Nc.moved hW.alike hN⟩⟩ rfl hn hl hstack (lv_room hrm) hdg ⟨hf1, hf2⟩) hS (fun q _ h => hF q h) hF (fun r u t H1 locs1 ht hvm hw hB hz1 hk1 hS1 => ?_)
  obtain ⟨hP1, hK1, hD1⟩ := hB
  rw [ht] at hP1
  obtain ⟨g1, g2⟩ := blk_join hP hD hk1 hF hP1 hD1
  exact kk r u H1 locs1 hw g1 g2 hS1
end CALLS3
theorem mwL_client_0 : Cond.classLink RL 13 "java/lang/IllegalArgumentException" ∈ wsL_client := by decide +kernel
set_option maxHeartbeats 4000000 in
set_option maxRecDepth 100000 in
theorem kL_client {l : Launch} {D : va_G} {k : Nat → ClassId} {d : Nat} {wC : va_W} {fs : List Value} {post : va_W → Prop} {px : String → va_W → Prop} {x y z : Int32} (he : wC[0]? = some (d, .inr (2, fs))) (hM : ∀ z9, XV l yX2_client wsX2_client ({ frames := 6, cells := 1, slots := 6, locals := 89 } : Room) D k wC z9 [.ref d, .int x, .int y, .int z] post px 1 6) (hpx : ∀ E w, px E w → E = IAE) (zz : Nat) : MH l yL_client wsL_client ({ frames := 7, cells := 1, slots := 6, locals := 112 } : Room) D k (wC) zz [.ref d, .int x, .int y, .int z] (fun r9 w9 => (r9 = nI 0 ∧ post w9) ∨ (r9 = nI 1 ∧ px IAE w9)) 1 6 := by
  refine bodyOfH (hh := [(0, 7, 10, 13)]) (Qc := fun A => QI D k (fun r9 w9 => (r9 = nI 0 ∧ post w9) ∨ (r9 = nI 1 ∧ px IAE w9)) A) (cc := cL_client) (maxL := 5) (ret := some .int) (by decide) rfl (Nat.le_of_ble_eq_true rfl) ?_
  intro p e s m below meth c A ls hc htab hZ hN hA hK hP hD hS hl
  obtain ⟨hx, hb, hml, hr, hts, hown, hlocks, hin⟩ := (show _ from hc)
  have hl : lv_has ls 5 [(0, .ref d), (1, .int x), (2, .int y), (3, .int z)] := hl
  refine lv_aload_n hx hb dL_client_0 rfl (lv_at hl 0 rfl) ?_
  refine lv_iload_n hx hb dL_client_1 rfl (lv_at hl 1 rfl) ?_
  refine lv_iload_n hx hb dL_client_2 rfl (lv_at hl 2 rfl) ?_
  refine lv_iload_n hx hb dL_client_3 rfl (lv_at hl 3 rfl) ?_
  refine goXV1 (X := []) (B := wC) hc (hM s.heap.size) (cwV 3 hts gL_client_X2_client rfl rfl rfl (by decide +kernel) ⟨(Nat.le_of_ble_eq_true rfl), (Nat.le_of_ble_eq_true rfl)⟩) hP hD hK hZ hS hA (ci := 2) (q0 := 0) rfl he rfl hl.1 rfl (Nat.le_of_ble_eq_true rfl) dL_client_4 (Nat.le_of_ble_eq_true rfl) (Nat.le_of_ble_eq_true rfl) (fun E ce q9 B9 H locs hq hP hD hS hce hcv hcc => ?_) (fun B9 H locs hq hP hD hS => ?_)
  · obtain rfl := hpx _ _ hq
    refine tc_catch1 (x := ⟨0, 7, 10, 13⟩) hown htab rfl (by decide) (hts (Cond.classLink RL 13 "java/lang/IllegalArgumentException") mwL_client_0) (va_Nw.use rfl (hZ.2.2 _ (by decide))) hce hcv hcc ?_
    refine lv_astore (lv' := [(4, .ref q9), (0, .ref d), (1, .int x), (2, .int y), (3, .int z)]) hx hb dL_client_10 hl (by decide) rfl (fun ls hl => ?_)
    refine lv_iconst (v := nI 1) hx hb dL_client_12 (by decide) ?_
    exact retI hc dL_client_13 hK hP hD hS (Or.inr ⟨rfl, hq⟩) (Nat.le_of_ble_eq_true rfl) (Nat.le_of_ble_eq_true rfl)
  · refine lv_goto (tgt := 14) hx hb dL_client_7 (by decide) ?_
    refine lv_iconst (v := nI 0) hx hb dL_client_14 (by decide) ?_
    exact retI hc dL_client_15 hK hP hD hS (Or.inl ⟨rfl, hq⟩) (Nat.le_of_ble_eq_true rfl) (Nat.le_of_ble_eq_true rfl)
theorem mwL_gone_0 : Cond.classLink RL 13 "java/lang/IllegalArgumentException" ∈ wsL_gone := by decide +kernel
theorem mwL_gone_1 : Cond.classLink RL 19 "java/lang/IllegalStateException" ∈ wsL_gone := by decide +kernel
set_option maxHeartbeats 4000000 in
set_option maxRecDepth 100000 in
theorem kL_gone {l : Launch} {D : va_G} {k : Nat → ClassId} {d : Nat} {wC : va_W} {fs : List Value} {post : va_W → Prop} {px : String → va_W → Prop} {x : Int32} (he : wC[0]? = some (d, .inr (2, fs))) (hM : ∀ z9, XV l yX2_gone wsX2_gone ({ frames := 7, cells := 2, slots := 12, locals := 110 } : Room) D k wC z9 [.ref d, .int x] post px 2 12) (hpx : ∀ E w, px E w → E = IAE ∨ E = ISE) (zz : Nat) : MH l yL_gone wsL_gone ({ frames := 8, cells := 2, slots := 12, locals := 131 } : Room) D k (wC) zz [.ref d, .int x] (fun r9 w9 => (r9 = nI 0 ∧ post w9) ∨ (r9 = nI 1 ∧ px IAE w9) ∨ (r9 = nI 2 ∧ px ISE w9)) 2 12 := by
  refine bodyOfH (hh := [(0, 5, 8, 13), (0, 5, 11, 19)]) (Qc := fun A => QI D k (fun r9 w9 => (r9 = nI 0 ∧ post w9) ∨ (r9 = nI 1 ∧ px IAE w9) ∨ (r9 = nI 2 ∧ px ISE w9)) A) (cc := cL_gone) (maxL := 3) (ret := some .int) (by decide) rfl (Nat.le_of_ble_eq_true rfl) ?_
  intro p e s m below meth c A ls hc htab hZ hN hA hK hP hD hS hl
  obtain ⟨hx, hb, hml, hr, hts, hown, hlocks, hin⟩ := (show _ from hc)
  have hl : lv_has ls 3 [(0, .ref d), (1, .int x)] := hl
  refine lv_aload_n hx hb dL_gone_0 rfl (lv_at hl 0 rfl) ?_
  refine lv_iload_n hx hb dL_gone_1 rfl (lv_at hl 1 rfl) ?_
  refine goXV1 (X := []) (B := wC) hc (hM s.heap.size) (cwV 1 hts gL_gone_X2_gone rfl rfl rfl (by decide +kernel) ⟨(Nat.le_of_ble_eq_true rfl), (Nat.le_of_ble_eq_true rfl)⟩) hP hD hK hZ hS hA (ci := 2) (q0 := 0) rfl he rfl hl.1 rfl (Nat.le_of_ble_eq_true rfl) dL_gone_2 (Nat.le_of_ble_eq_true rfl) (Nat.le_of_ble_eq_true rfl) (fun E ce q9 B9 H locs hq hP hD hS hce hcv hcc => ?_) (fun B9 H locs hq hP hD hS => ?_)
  · rcases hpx _ _ hq with rfl | rfl
    · skip
      refine tc_catch1 (x := ⟨0, 5, 8, 13⟩) hown htab rfl (by decide) (hts (Cond.classLink RL 13 "java/lang/IllegalArgumentException") mwL_gone_0) (va_Nw.use rfl (hZ.2.2 _ (by decide))) hce hcv hcc ?_
      refine lv_astore_n (lv' := [(2, .ref q9), (0, .ref d), (1, .int x)]) hx hb dL_gone_8 rfl hl (by decide) rfl (fun ls hl => ?_)
      refine lv_iconst (v := nI 1) hx hb dL_gone_9 (by decide) ?_
      exact retI hc dL_gone_10 hK hP hD hS (Or.inr (Or.inl ⟨rfl, hq⟩)) (Nat.le_of_ble_eq_true rfl) (Nat.le_of_ble_eq_true rfl)
    · skip
      refine tc_catch2 (y := ⟨0, 5, 8, 13⟩) (x := ⟨0, 5, 11, 19⟩) hown htab rfl (by decide) rfl (by decide) (hts (Cond.classLink RL 13 "java/lang/IllegalArgumentException") mwL_gone_0) hN (hts (Cond.classLink RL 19 "java/lang/IllegalStateException") mwL_gone_1) (va_Nw.use rfl (hZ.2.2 _ (by decide))) hce hcv hcc ?_
      refine lv_astore_n (lv' := [(2, .ref q9), (0, .ref d), (1, .int x)]) hx hb dL_gone_11 rfl hl (by decide) rfl (fun ls hl => ?_)
      refine lv_iconst (v := nI 2) hx hb dL_gone_12 (by decide) ?_
      exact retI hc dL_gone_13 hK hP hD hS (Or.inr (Or.inr ⟨rfl, hq⟩)) (Nat.le_of_ble_eq_true rfl) (Nat.le_of_ble_eq_true rfl)
  · refine lv_goto (tgt := 14) hx hb dL_gone_5 (by decide) ?_
    refine lv_iconst (v := nI 0) hx hb dL_gone_14 (by decide) ?_
    exact retI hc dL_gone_15 hK hP hD hS (Or.inl ⟨rfl, hq⟩) (Nat.le_of_ble_eq_true rfl) (Nat.le_of_ble_eq_true rfl)
theorem mwL_submit_0 : Cond.classLink RL 13 "java/lang/IllegalArgumentException" ∈ wsL_submit := by decide +kernel
set_option maxHeartbeats 4000000 in
set_option maxRecDepth 100000 in
theorem kL_submit {l : Launch} {D : va_G} {k : Nat → ClassId} {d ob : Nat} {ov : Nat → Int64} {wC : va_W} {fs : List Value} {post : Int32 → va_W → Prop} {px : String → va_W → Prop} {x w u v y : Int32} (he : wC[0]? = some (d, .inr (2, fs))) (hM : ∀ z9, XI l yX2_submit wsX2_submit ({ frames := 7, cells := 2, slots := 12, locals := 110 } : Room) D k wC z9 [.ref d, .int x, .int w, .int u, .int v, .int y] post px 2 12) (hpx : ∀ E w, px E w → E = IAE) (zz : Nat) : MH l yL_submit wsL_submit ({ frames := 8, cells := 2, slots := 12, locals := 135 } : Room) D k (oc ob k ov :: wC) zz [.ref d, .int x, .int w, .int u, .int v, .int y, .ref ob] (fun r9 w9 => ∃ ov2 w2, w9 = oc ob k ov2 :: w2 ∧ ((r9 = nI 0 ∧ ∃ r, post r w2 ∧ ov2 0 = r.toInt64) ∨ (r9 = nI 1 ∧ px IAE w2))) 2 12 := by
  refine bodyOfH (hh := [(0, 16, 19, 13)]) (Qc := fun A => QI D k (fun r9 w9 => ∃ ov2 w2, w9 = oc ob k ov2 :: w2 ∧ ((r9 = nI 0 ∧ ∃ r, post r w2 ∧ ov2 0 = r.toInt64) ∨ (r9 = nI 1 ∧ px IAE w2))) A) (cc := cL_submit) (maxL := 8) (ret := some .int) (by decide) rfl (Nat.le_of_ble_eq_true rfl) ?_
  intro p e s m below meth c A ls hc htab hZ hN hA hK hP hD hS hl
  obtain ⟨hx, hb, hml, hr, hts, hown, hlocks, hin⟩ := (show _ from hc)
  have hl : lv_has ls 8 [(0, .ref d), (1, .int x), (2, .int w), (3, .int u), (4, .int v), (5, .int y), (6, .ref ob)] := hl
  refine lv_aload hx hb dL_submit_0 (lv_at hl 6 rfl) ?_
  refine lv_iconst (v := nI 0) hx hb dL_submit_2 (by decide) ?_
  refine lv_aload_n hx hb dL_submit_3 rfl (lv_at hl 0 rfl) ?_
  refine lv_iload_n hx hb dL_submit_4 rfl (lv_at hl 1 rfl) ?_
  refine lv_iload_n hx hb dL_submit_5 rfl (lv_at hl 2 rfl) ?_
  refine lv_iload_n hx hb dL_submit_6 rfl (lv_at hl 3 rfl) ?_
  refine lv_iload hx hb dL_submit_7 (lv_at hl 4 rfl) ?_
  refine lv_iload hx hb dL_submit_9 (lv_at hl 5 rfl) ?_
  refine goXI1 (X := [oc ob k ov]) (B := wC) hc (hM s.heap.size) (cwV 5 hts gL_submit_X2_submit rfl rfl rfl (by decide +kernel) ⟨(Nat.le_of_ble_eq_true rfl), (Nat.le_of_ble_eq_true rfl)⟩) hP hD hK hZ hS hA (ci := 2) (q0 := 0) rfl he rfl hl.1 rfl (Nat.le_of_ble_eq_true rfl) dL_submit_11 (Nat.le_of_ble_eq_true rfl) (Nat.le_of_ble_eq_true rfl) (fun E ce q9 B9 H locs hq hP hD hS hce hcv hcc => ?_) (fun r9 B9 H locs hq hP hD hS => ?_)
  · obtain rfl := hpx _ _ hq
    refine tc_catch1 (x := ⟨0, 16, 19, 13⟩) hown htab rfl (by decide) (hts (Cond.classLink RL 13 "java/lang/IllegalArgumentException") mwL_submit_0) (va_Nw.use rfl (hZ.2.2 _ (by decide))) hce hcv hcc ?_
    refine lv_astore (lv' := [(7, .ref q9), (0, .ref d), (1, .int x), (2, .int w), (3, .int u), (4, .int v), (5, .int y), (6, .ref ob)]) hx hb dL_submit_19 hl (by decide) rfl (fun ls hl => ?_)
    refine lv_iconst (v := nI 1) hx hb dL_submit_21 (by decide) ?_
    exact retI hc dL_submit_22 hK hP hD hS (⟨ov, B9, rfl, Or.inr ⟨rfl, hq⟩⟩) (Nat.le_of_ble_eq_true rfl) (Nat.le_of_ble_eq_true rfl)
  · refine lv_i2l (v := r9.toInt64) hx hb dL_submit_14 rfl ?_
    refine sJ hx hb hK hP hD hS 0 2 rfl rfl (ixN (j := 0) (n := 1) (by decide) (by decide)) dL_submit_15 (fun H locs hP hD hS => ?_)
    refine lv_goto (tgt := 23) hx hb dL_submit_16 (by decide) ?_
    refine lv_iconst (v := nI 0) hx hb dL_submit_23 (by decide) ?_
    exact retI hc dL_submit_24 hK hP hD hS (⟨vp_updL ov 0 (r9.toInt64), B9, rfl, Or.inl ⟨rfl, r9, hq, pk_uLs⟩⟩) (Nat.le_of_ble_eq_true rfl) (Nat.le_of_ble_eq_true rfl)
theorem mwL_pass_0 : Cond.classLink RL 13 "java/lang/IllegalArgumentException" ∈ wsL_pass := by decide +kernel
set_option maxHeartbeats 4000000 in
set_option maxRecDepth 100000 in
theorem kL_pass {l : Launch} {D : va_G} {k : Nat → ClassId} {d ob : Nat} {ov : Nat → Int64} {wC : va_W} {fs : List Value} {post : Int64 → va_W → Prop} {px : String → va_W → Prop} {x : Int32} (he : wC[0]? = some (d, .inr (2, fs))) (hM : ∀ z9, XL l yX2_pass wsX2_pass ({ frames := 6, cells := 1, slots := 6, locals := 89 } : Room) D k wC z9 [.ref d, .int x] post px 1 6) (hpx : ∀ E w, px E w → E = IAE) (zz : Nat) : MH l yL_pass wsL_pass ({ frames := 7, cells := 1, slots := 6, locals := 110 } : Room) D k (oc ob k ov :: wC) zz [.ref d, .int x, .ref ob] (fun r9 w9 => ∃ ov2 w2, w9 = oc ob k ov2 :: w2 ∧ ((r9 = nI 0 ∧ post (ov2 0) w2) ∨ (r9 = nI 1 ∧ px IAE w2))) 1 6 := by
  refine bodyOfH (hh := [(0, 8, 11, 13)]) (Qc := fun A => QI D k (fun r9 w9 => ∃ ov2 w2, w9 = oc ob k ov2 :: w2 ∧ ((r9 = nI 0 ∧ post (ov2 0) w2) ∨ (r9 = nI 1 ∧ px IAE w2))) A) (cc := cL_pass) (maxL := 4) (ret := some .int) (by decide) rfl (Nat.le_of_ble_eq_true rfl) ?_
  intro p e s m below meth c A ls hc htab hZ hN hA hK hP hD hS hl
  obtain ⟨hx, hb, hml, hr, hts, hown, hlocks, hin⟩ := (show _ from hc)
  have hl : lv_has ls 4 [(0, .ref d), (1, .int x), (2, .ref ob)] := hl
  refine lv_aload_n hx hb dL_pass_0 rfl (lv_at hl 2 rfl) ?_
  refine lv_iconst (v := nI 0) hx hb dL_pass_1 (by decide) ?_
  refine lv_aload_n hx hb dL_pass_2 rfl (lv_at hl 0 rfl) ?_
  refine lv_iload_n hx hb dL_pass_3 rfl (lv_at hl 1 rfl) ?_
  refine goXL1 (X := [oc ob k ov]) (B := wC) hc (hM s.heap.size) (cwV 1 hts gL_pass_X2_pass rfl rfl rfl (by decide +kernel) ⟨(Nat.le_of_ble_eq_true rfl), (Nat.le_of_ble_eq_true rfl)⟩) hP hD hK hZ hS hA (ci := 2) (q0 := 0) rfl he rfl hl.1 rfl (Nat.le_of_ble_eq_true rfl) dL_pass_4 (Nat.le_of_ble_eq_true rfl) (Nat.le_of_ble_eq_true rfl) (fun E ce q9 B9 H locs hq hP hD hS hce hcv hcc => ?_) (fun r9 B9 H locs hq hP hD hS => ?_)
  · obtain rfl := hpx _ _ hq
    refine tc_catch1 (x := ⟨0, 8, 11, 13⟩) hown htab rfl (by decide) (hts (Cond.classLink RL 13 "java/lang/IllegalArgumentException") mwL_pass_0) (va_Nw.use rfl (hZ.2.2 _ (by decide))) hce hcv hcc ?_
    refine lv_astore_n (lv' := [(3, .ref q9), (0, .ref d), (1, .int x), (2, .ref ob)]) hx hb dL_pass_11 rfl hl (by decide) rfl (fun ls hl => ?_)
    refine lv_iconst (v := nI 1) hx hb dL_pass_12 (by decide) ?_
    exact retI hc dL_pass_13 hK hP hD hS (⟨ov, B9, rfl, Or.inr ⟨rfl, hq⟩⟩) (Nat.le_of_ble_eq_true rfl) (Nat.le_of_ble_eq_true rfl)
  · refine sJ hx hb hK hP hD hS 0 2 rfl rfl (ixN (j := 0) (n := 1) (by decide) (by decide)) dL_pass_7 (fun H locs hP hD hS => ?_)
    refine lv_goto (tgt := 14) hx hb dL_pass_8 (by decide) ?_
    refine lv_iconst (v := nI 0) hx hb dL_pass_14 (by decide) ?_
    exact retI hc dL_pass_15 hK hP hD hS (⟨vp_updL ov 0 (r9), B9, rfl, Or.inl ⟨rfl, by rw [pk_uLs]; exact hq⟩⟩) (Nat.le_of_ble_eq_true rfl) (Nat.le_of_ble_eq_true rfl)
theorem mwL_state_0 : Cond.classLink RL 33 "java/lang/IndexOutOfBoundsException" ∈ wsL_state := by decide +kernel
set_option maxHeartbeats 4000000 in
set_option maxRecDepth 100000 in
theorem kL_state {l : Launch} {D : va_G} {k : Nat → ClassId} {d ob : Nat} {ov : Nat → Int64} {wC : va_W} {fs : List Value} {post : Int32 → va_W → Prop} {px : String → va_W → Prop} {x : Int32} (he : wC[0]? = some (d, .inr (2, fs))) (hM : ∀ z9, XI l yX2_state wsX2_state ({ frames := 6, cells := 1, slots := 6, locals := 89 } : Room) D k wC z9 [.ref d, .int x] post px 1 6) (hpx : ∀ E w, px E w → E = IOB) (zz : Nat) : MH l yL_state wsL_state ({ frames := 7, cells := 1, slots := 6, locals := 110 } : Room) D k (oc ob k ov :: wC) zz [.ref d, .int x, .ref ob] (fun r9 w9 => ∃ ov2 w2, w9 = oc ob k ov2 :: w2 ∧ ((r9 = nI 0 ∧ ∃ r, post r w2 ∧ ov2 0 = r.toInt64) ∨ (r9 = nI 1 ∧ px IOB w2))) 1 6 := by
  refine bodyOfH (hh := [(0, 9, 12, 33)]) (Qc := fun A => QI D k (fun r9 w9 => ∃ ov2 w2, w9 = oc ob k ov2 :: w2 ∧ ((r9 = nI 0 ∧ ∃ r, post r w2 ∧ ov2 0 = r.toInt64) ∨ (r9 = nI 1 ∧ px IOB w2))) A) (cc := cL_state) (maxL := 4) (ret := some .int) (by decide) rfl (Nat.le_of_ble_eq_true rfl) ?_
  intro p e s m below meth c A ls hc htab hZ hN hA hK hP hD hS hl
  obtain ⟨hx, hb, hml, hr, hts, hown, hlocks, hin⟩ := (show _ from hc)
  have hl : lv_has ls 4 [(0, .ref d), (1, .int x), (2, .ref ob)] := hl
  refine lv_aload_n hx hb dL_state_0 rfl (lv_at hl 2 rfl) ?_
  refine lv_iconst (v := nI 0) hx hb dL_state_1 (by decide) ?_
  refine lv_aload_n hx hb dL_state_2 rfl (lv_at hl 0 rfl) ?_
  refine lv_iload_n hx hb dL_state_3 rfl (lv_at hl 1 rfl) ?_
  refine goXI1 (X := [oc ob k ov]) (B := wC) hc (hM s.heap.size) (cwV 1 hts gL_state_X2_state rfl rfl rfl (by decide +kernel) ⟨(Nat.le_of_ble_eq_true rfl), (Nat.le_of_ble_eq_true rfl)⟩) hP hD hK hZ hS hA (ci := 2) (q0 := 0) rfl he rfl hl.1 rfl (Nat.le_of_ble_eq_true rfl) dL_state_4 (Nat.le_of_ble_eq_true rfl) (Nat.le_of_ble_eq_true rfl) (fun E ce q9 B9 H locs hq hP hD hS hce hcv hcc => ?_) (fun r9 B9 H locs hq hP hD hS => ?_)
  · obtain rfl := hpx _ _ hq
    refine tc_catch1 (x := ⟨0, 9, 12, 33⟩) hown htab rfl (by decide) (hts (Cond.classLink RL 33 "java/lang/IndexOutOfBoundsException") mwL_state_0) (va_Nw.use rfl (hZ.2.2 _ (by decide))) hce hcv hcc ?_
    refine lv_astore_n (lv' := [(3, .ref q9), (0, .ref d), (1, .int x), (2, .ref ob)]) hx hb dL_state_12 rfl hl (by decide) rfl (fun ls hl => ?_)
    refine lv_iconst (v := nI 1) hx hb dL_state_13 (by decide) ?_
    exact retI hc dL_state_14 hK hP hD hS (⟨ov, B9, rfl, Or.inr ⟨rfl, hq⟩⟩) (Nat.le_of_ble_eq_true rfl) (Nat.le_of_ble_eq_true rfl)
  · refine lv_i2l (v := r9.toInt64) hx hb dL_state_7 rfl ?_
    refine sJ hx hb hK hP hD hS 0 2 rfl rfl (ixN (j := 0) (n := 1) (by decide) (by decide)) dL_state_8 (fun H locs hP hD hS => ?_)
    refine lv_goto (tgt := 15) hx hb dL_state_9 (by decide) ?_
    refine lv_iconst (v := nI 0) hx hb dL_state_15 (by decide) ?_
    exact retI hc dL_state_16 hK hP hD hS (⟨vp_updL ov 0 (r9.toInt64), B9, rfl, Or.inl ⟨rfl, r9, hq, pk_uLs⟩⟩) (Nat.le_of_ble_eq_true rfl) (Nat.le_of_ble_eq_true rfl)
theorem mwL_tag_0 : Cond.classLink RL 13 "java/lang/IllegalArgumentException" ∈ wsL_tag := by decide +kernel
set_option maxHeartbeats 4000000 in
set_option maxRecDepth 100000 in
theorem kL_tag {l : Launch} {D : va_G} {k : Nat → ClassId} {d ob : Nat} {ov : Nat → Int64} {wC : va_W} {fs : List Value} {post : Int64 → va_W → Prop} {px : String → va_W → Prop} {x : Int32} (he : wC[0]? = some (d, .inr (2, fs))) (hM : ∀ z9, XL l yX2_tag wsX2_tag ({ frames := 7, cells := 1, slots := 6, locals := 110 } : Room) D k wC z9 [.ref d, .int x] post px 1 6) (hpx : ∀ E w, px E w → E = IAE) (zz : Nat) : MH l yL_tag wsL_tag ({ frames := 8, cells := 1, slots := 6, locals := 131 } : Room) D k (oc ob k ov :: wC) zz [.ref d, .int x, .ref ob] (fun r9 w9 => ∃ ov2 w2, w9 = oc ob k ov2 :: w2 ∧ ((r9 = nI 0 ∧ post (ov2 0) w2) ∨ (r9 = nI 1 ∧ px IAE w2))) 1 6 := by
  refine bodyOfH (hh := [(0, 8, 11, 13)]) (Qc := fun A => QI D k (fun r9 w9 => ∃ ov2 w2, w9 = oc ob k ov2 :: w2 ∧ ((r9 = nI 0 ∧ post (ov2 0) w2) ∨ (r9 = nI 1 ∧ px IAE w2))) A) (cc := cL_tag) (maxL := 4) (ret := some .int) (by decide) rfl (Nat.le_of_ble_eq_true rfl) ?_
  intro p e s m below meth c A ls hc htab hZ hN hA hK hP hD hS hl
  obtain ⟨hx, hb, hml, hr, hts, hown, hlocks, hin⟩ := (show _ from hc)
  have hl : lv_has ls 4 [(0, .ref d), (1, .int x), (2, .ref ob)] := hl
  refine lv_aload_n hx hb dL_tag_0 rfl (lv_at hl 2 rfl) ?_
  refine lv_iconst (v := nI 0) hx hb dL_tag_1 (by decide) ?_
  refine lv_aload_n hx hb dL_tag_2 rfl (lv_at hl 0 rfl) ?_
  refine lv_iload_n hx hb dL_tag_3 rfl (lv_at hl 1 rfl) ?_
  refine goXL1 (X := [oc ob k ov]) (B := wC) hc (hM s.heap.size) (cwV 1 hts gL_tag_X2_tag rfl rfl rfl (by decide +kernel) ⟨(Nat.le_of_ble_eq_true rfl), (Nat.le_of_ble_eq_true rfl)⟩) hP hD hK hZ hS hA (ci := 2) (q0 := 0) rfl he rfl hl.1 rfl (Nat.le_of_ble_eq_true rfl) dL_tag_4 (Nat.le_of_ble_eq_true rfl) (Nat.le_of_ble_eq_true rfl) (fun E ce q9 B9 H locs hq hP hD hS hce hcv hcc => ?_) (fun r9 B9 H locs hq hP hD hS => ?_)
  · obtain rfl := hpx _ _ hq
    refine tc_catch1 (x := ⟨0, 8, 11, 13⟩) hown htab rfl (by decide) (hts (Cond.classLink RL 13 "java/lang/IllegalArgumentException") mwL_tag_0) (va_Nw.use rfl (hZ.2.2 _ (by decide))) hce hcv hcc ?_
    refine lv_astore_n (lv' := [(3, .ref q9), (0, .ref d), (1, .int x), (2, .ref ob)]) hx hb dL_tag_11 rfl hl (by decide) rfl (fun ls hl => ?_)
    refine lv_iconst (v := nI 1) hx hb dL_tag_12 (by decide) ?_
    exact retI hc dL_tag_13 hK hP hD hS (⟨ov, B9, rfl, Or.inr ⟨rfl, hq⟩⟩) (Nat.le_of_ble_eq_true rfl) (Nat.le_of_ble_eq_true rfl)
  · refine sJ hx hb hK hP hD hS 0 2 rfl rfl (ixN (j := 0) (n := 1) (by decide) (by decide)) dL_tag_7 (fun H locs hP hD hS => ?_)
    refine lv_goto (tgt := 14) hx hb dL_tag_8 (by decide) ?_
    refine lv_iconst (v := nI 0) hx hb dL_tag_14 (by decide) ?_
    exact retI hc dL_tag_15 hK hP hD hS (⟨vp_updL ov 0 (r9), B9, rfl, Or.inl ⟨rfl, by rw [pk_uLs]; exact hq⟩⟩) (Nat.le_of_ble_eq_true rfl) (Nat.le_of_ble_eq_true rfl)
theorem mwL_lag_0 : Cond.classLink RL 13 "java/lang/IllegalArgumentException" ∈ wsL_lag := by decide +kernel
set_option maxHeartbeats 4000000 in
set_option maxRecDepth 100000 in
theorem kL_lag {l : Launch} {D : va_G} {k : Nat → ClassId} {d ob : Nat} {ov : Nat → Int64} {wC : va_W} {fs : List Value} {post : Int64 → va_W → Prop} {px : String → va_W → Prop} {x y : Int32} (he : wC[0]? = some (d, .inr (2, fs))) (hM : ∀ z9, XL l yX2_lag wsX2_lag ({ frames := 7, cells := 3, slots := 18, locals := 110 } : Room) D k wC z9 [.ref d, .int x, .int y] post px 3 18) (hpx : ∀ E w, px E w → E = IAE) (zz : Nat) : MH l yL_lag wsL_lag ({ frames := 8, cells := 3, slots := 18, locals := 132 } : Room) D k (oc ob k ov :: wC) zz [.ref d, .int x, .int y, .ref ob] (fun r9 w9 => ∃ ov2 w2, w9 = oc ob k ov2 :: w2 ∧ ((r9 = nI 0 ∧ post (ov2 0) w2) ∨ (r9 = nI 1 ∧ px IAE w2))) 3 18 := by
  refine bodyOfH (hh := [(0, 9, 12, 13)]) (Qc := fun A => QI D k (fun r9 w9 => ∃ ov2 w2, w9 = oc ob k ov2 :: w2 ∧ ((r9 = nI 0 ∧ post (ov2 0) w2) ∨ (r9 = nI 1 ∧ px IAE w2))) A) (cc := cL_lag) (maxL := 5) (ret := some .int) (by decide) rfl (Nat.le_of_ble_eq_true rfl) ?_
  intro p e s m below meth c A ls hc htab hZ hN hA hK hP hD hS hl
  obtain ⟨hx, hb, hml, hr, hts, hown, hlocks, hin⟩ := (show _ from hc)
  have hl : lv_has ls 5 [(0, .ref d), (1, .int x), (2, .int y), (3, .ref ob)] := hl
  refine lv_aload_n hx hb dL_lag_0 rfl (lv_at hl 3 rfl) ?_
  refine lv_iconst (v := nI 0) hx hb dL_lag_1 (by decide) ?_
  refine lv_aload_n hx hb dL_lag_2 rfl (lv_at hl 0 rfl) ?_
  refine lv_iload_n hx hb dL_lag_3 rfl (lv_at hl 1 rfl) ?_
  refine lv_iload_n hx hb dL_lag_4 rfl (lv_at hl 2 rfl) ?_
  refine goXL1 (X := [oc ob k ov]) (B := wC) hc (hM s.heap.size) (cwV 2 hts gL_lag_X2_lag rfl rfl rfl (by decide +kernel) ⟨(Nat.le_of_ble_eq_true rfl), (Nat.le_of_ble_eq_true rfl)⟩) hP hD hK hZ hS hA (ci := 2) (q0 := 0) rfl he rfl hl.1 rfl (Nat.le_of_ble_eq_true rfl) dL_lag_5 (Nat.le_of_ble_eq_true rfl) (Nat.le_of_ble_eq_true rfl) (fun E ce q9 B9 H locs hq hP hD hS hce hcv hcc => ?_) (fun r9 B9 H locs hq hP hD hS => ?_)
  · obtain rfl := hpx _ _ hq
    refine tc_catch1 (x := ⟨0, 9, 12, 13⟩) hown htab rfl (by decide) (hts (Cond.classLink RL 13 "java/lang/IllegalArgumentException") mwL_lag_0) (va_Nw.use rfl (hZ.2.2 _ (by decide))) hce hcv hcc ?_
    refine lv_astore (lv' := [(4, .ref q9), (0, .ref d), (1, .int x), (2, .int y), (3, .ref ob)]) hx hb dL_lag_12 hl (by decide) rfl (fun ls hl => ?_)
    refine lv_iconst (v := nI 1) hx hb dL_lag_14 (by decide) ?_
    exact retI hc dL_lag_15 hK hP hD hS (⟨ov, B9, rfl, Or.inr ⟨rfl, hq⟩⟩) (Nat.le_of_ble_eq_true rfl) (Nat.le_of_ble_eq_true rfl)
  · refine sJ hx hb hK hP hD hS 0 2 rfl rfl (ixN (j := 0) (n := 1) (by decide) (by decide)) dL_lag_8 (fun H locs hP hD hS => ?_)
    refine lv_goto (tgt := 16) hx hb dL_lag_9 (by decide) ?_
    refine lv_iconst (v := nI 0) hx hb dL_lag_16 (by decide) ?_
    exact retI hc dL_lag_17 hK hP hD hS (⟨vp_updL ov 0 (r9), B9, rfl, Or.inl ⟨rfl, by rw [pk_uLs]; exact hq⟩⟩) (Nat.le_of_ble_eq_true rfl) (Nat.le_of_ble_eq_true rfl)
