theorem mwX0_isThere_0 : Cond.fieldLink RX0 9 "ShareDisk$Clients" "there" "[Z" ∈ wsX0_isThere := by decide +kernel
theorem iwX0_isThere_X0 : ∀ w ∈ wsX00, w ∈ wsX0_isThere := by decide +kernel
set_option maxHeartbeats 4000000 in
set_option maxRecDepth 100000 in
theorem kX0_isThere (l : Launch) (D : va_G) (k : Nat → ClassId) (q : Nat → Nat) (zz : Nat) (th co bu : Nat → Int32) (tg : Nat → Int64) (wa se : Nat → Int32) (ld : Nat → Nat → Int64) (id : Nat) (hid : id < 8) (hth : ∀ i, th i = 0 ∨ th i = 1) : MI l yX0_isThere wsX0_isThere ({ frames := 0, cells := 0, slots := 0, locals := 0 } : Room) D k (ClW q k th co bu tg wa se ld) zz [.ref (q 0), .int (nI id)] (fun r9 w9 => r9 = (th id) ∧ w9 = ClW q k th co bu tg wa se ld) 0 0 := by
  refine bodyOf (Qc := fun A => QI D k (fun r9 w9 => r9 = (th id) ∧ w9 = ClW q k th co bu tg wa se ld) A) (cc := cX0_isThere) (maxL := 2) (ret := (some .boolean)) (by decide) rfl (Nat.le_of_ble_eq_true rfl) ?_
  intro p e s m below meth c A ls hc hA hK hP hD hS hl
  obtain ⟨hx, hb, hml, hr, hts, hown, hlocks, hin⟩ := (show _ from hc)
  have hl : lv_has ls 2 [(0, .ref (q 0)), (1, .int (nI id))] := hl
  refine lv_aload_n hx hb dX0_isThere_0 rfl (lv_at hl 0 rfl) ?_
  refine va_get (D := D) (ci := 0) (v := .ref (q 1)) (C := RX0) (T := TX0) (N := 7) hx hb hts iwX0_isThere_X0 hown hK hP 0 rfl rfl 0 (by decide) (hts (Cond.fieldLink RX0 9 "ShareDisk$Clients" "there" "[Z") mwX0_isThere_0) (fun _ h9 => h9) rfl dX0_isThere_1 ?_
  refine lv_iload_n hx hb dX0_isThere_4 rfl (lv_at hl 1 rfl) ?_
  refine aZ hx hb hK hP 1 0 rfl rfl (ix8 hid) dX0_isThere_5 ?_
  exact retZ hc dX0_isThere_6 hK hP hD hS (hth id) (⟨rfl, rfl⟩) (Nat.le_of_ble_eq_true rfl) (Nat.le_of_ble_eq_true rfl)
theorem mwX0_budgetOf_0 : Cond.fieldLink RX0 19 "ShareDisk$Clients" "budget" "[I" ∈ wsX0_budgetOf := by decide +kernel
theorem iwX0_budgetOf_X0 : ∀ w ∈ wsX00, w ∈ wsX0_budgetOf := by decide +kernel
set_option maxHeartbeats 4000000 in
set_option maxRecDepth 100000 in
theorem kX0_budgetOf (l : Launch) (D : va_G) (k : Nat → ClassId) (q : Nat → Nat) (zz : Nat) (th co bu : Nat → Int32) (tg : Nat → Int64) (wa se : Nat → Int32) (ld : Nat → Nat → Int64) (id : Nat) (hid : id < 8) : MI l yX0_budgetOf wsX0_budgetOf ({ frames := 0, cells := 0, slots := 0, locals := 0 } : Room) D k (ClW q k th co bu tg wa se ld) zz [.ref (q 0), .int (nI id)] (fun r9 w9 => r9 = (bu id) ∧ w9 = ClW q k th co bu tg wa se ld) 0 0 := by
  refine bodyOf (Qc := fun A => QI D k (fun r9 w9 => r9 = (bu id) ∧ w9 = ClW q k th co bu tg wa se ld) A) (cc := cX0_budgetOf) (maxL := 2) (ret := (some .int)) (by decide) rfl (Nat.le_of_ble_eq_true rfl) ?_
  intro p e s m below meth c A ls hc hA hK hP hD hS hl
  obtain ⟨hx, hb, hml, hr, hts, hown, hlocks, hin⟩ := (show _ from hc)
  have hl : lv_has ls 2 [(0, .ref (q 0)), (1, .int (nI id))] := hl
  refine lv_aload_n hx hb dX0_budgetOf_0 rfl (lv_at hl 0 rfl) ?_
  refine va_get (D := D) (ci := 0) (v := .ref (q 3)) (C := RX0) (T := TX0) (N := 7) hx hb hts iwX0_budgetOf_X0 hown hK hP 0 rfl rfl 2 (by decide) (hts (Cond.fieldLink RX0 19 "ShareDisk$Clients" "budget" "[I") mwX0_budgetOf_0) (fun _ h9 => h9) rfl dX0_budgetOf_1 ?_
  refine lv_iload_n hx hb dX0_budgetOf_4 rfl (lv_at hl 1 rfl) ?_
  refine aI hx hb hK hP 3 1 rfl rfl (ix8 hid) dX0_budgetOf_5 ?_
  exact retI hc dX0_budgetOf_6 hK hP hD hS (⟨rfl, rfl⟩) (Nat.le_of_ble_eq_true rfl) (Nat.le_of_ble_eq_true rfl)
theorem mwX0_tagOf_0 : Cond.fieldLink RX0 22 "ShareDisk$Clients" "tag" "[J" ∈ wsX0_tagOf := by decide +kernel
theorem iwX0_tagOf_X0 : ∀ w ∈ wsX00, w ∈ wsX0_tagOf := by decide +kernel
set_option maxHeartbeats 4000000 in
set_option maxRecDepth 100000 in
theorem kX0_tagOf (l : Launch) (D : va_G) (k : Nat → ClassId) (q : Nat → Nat) (zz : Nat) (th co bu : Nat → Int32) (tg : Nat → Int64) (wa se : Nat → Int32) (ld : Nat → Nat → Int64) (id : Nat) (hid : id < 8) : ML l yX0_tagOf wsX0_tagOf ({ frames := 0, cells := 0, slots := 0, locals := 0 } : Room) D k (ClW q k th co bu tg wa se ld) zz [.ref (q 0), .int (nI id)] (fun r9 w9 => r9 = (tg id) ∧ w9 = ClW q k th co bu tg wa se ld) 0 0 := by
  refine bodyOf (Qc := fun A => QL D k (fun r9 w9 => r9 = (tg id) ∧ w9 = ClW q k th co bu tg wa se ld) A) (cc := cX0_tagOf) (maxL := 2) (ret := (some .long)) (by decide) rfl (Nat.le_of_ble_eq_true rfl) ?_
  intro p e s m below meth c A ls hc hA hK hP hD hS hl
  obtain ⟨hx, hb, hml, hr, hts, hown, hlocks, hin⟩ := (show _ from hc)
  have hl : lv_has ls 2 [(0, .ref (q 0)), (1, .int (nI id))] := hl
  refine lv_aload_n hx hb dX0_tagOf_0 rfl (lv_at hl 0 rfl) ?_
  refine va_get (D := D) (ci := 0) (v := .ref (q 4)) (C := RX0) (T := TX0) (N := 7) hx hb hts iwX0_tagOf_X0 hown hK hP 0 rfl rfl 3 (by decide) (hts (Cond.fieldLink RX0 22 "ShareDisk$Clients" "tag" "[J") mwX0_tagOf_0) (fun _ h9 => h9) rfl dX0_tagOf_1 ?_
  refine lv_iload_n hx hb dX0_tagOf_4 rfl (lv_at hl 1 rfl) ?_
  refine aJ hx hb hK hP 4 2 rfl rfl (ix8 hid) dX0_tagOf_5 ?_
  exact retL hc dX0_tagOf_6 hK hP hD hS (⟨rfl, rfl⟩) (Nat.le_of_ble_eq_true rfl) (Nat.le_of_ble_eq_true rfl)
theorem mwX0_waitingOf_0 : Cond.fieldLink RX0 26 "ShareDisk$Clients" "waiting" "[I" ∈ wsX0_waitingOf := by decide +kernel
theorem iwX0_waitingOf_X0 : ∀ w ∈ wsX00, w ∈ wsX0_waitingOf := by decide +kernel
set_option maxHeartbeats 4000000 in
set_option maxRecDepth 100000 in
theorem kX0_waitingOf (l : Launch) (D : va_G) (k : Nat → ClassId) (q : Nat → Nat) (zz : Nat) (th co bu : Nat → Int32) (tg : Nat → Int64) (wa se : Nat → Int32) (ld : Nat → Nat → Int64) (id : Nat) (hid : id < 8) : MI l yX0_waitingOf wsX0_waitingOf ({ frames := 0, cells := 0, slots := 0, locals := 0 } : Room) D k (ClW q k th co bu tg wa se ld) zz [.ref (q 0), .int (nI id)] (fun r9 w9 => r9 = (wa id) ∧ w9 = ClW q k th co bu tg wa se ld) 0 0 := by
  refine bodyOf (Qc := fun A => QI D k (fun r9 w9 => r9 = (wa id) ∧ w9 = ClW q k th co bu tg wa se ld) A) (cc := cX0_waitingOf) (maxL := 2) (ret := (some .int)) (by decide) rfl (Nat.le_of_ble_eq_true rfl) ?_
  intro p e s m below meth c A ls hc hA hK hP hD hS hl
  obtain ⟨hx, hb, hml, hr, hts, hown, hlocks, hin⟩ := (show _ from hc)
  have hl : lv_has ls 2 [(0, .ref (q 0)), (1, .int (nI id))] := hl
  refine lv_aload_n hx hb dX0_waitingOf_0 rfl (lv_at hl 0 rfl) ?_
  refine va_get (D := D) (ci := 0) (v := .ref (q 5)) (C := RX0) (T := TX0) (N := 7) hx hb hts iwX0_waitingOf_X0 hown hK hP 0 rfl rfl 4 (by decide) (hts (Cond.fieldLink RX0 26 "ShareDisk$Clients" "waiting" "[I") mwX0_waitingOf_0) (fun _ h9 => h9) rfl dX0_waitingOf_1 ?_
  refine lv_iload_n hx hb dX0_waitingOf_4 rfl (lv_at hl 1 rfl) ?_
  refine aI hx hb hK hP 5 1 rfl rfl (ix8 hid) dX0_waitingOf_5 ?_
  exact retI hc dX0_waitingOf_6 hK hP hD hS (⟨rfl, rfl⟩) (Nat.le_of_ble_eq_true rfl) (Nat.le_of_ble_eq_true rfl)
theorem mwX0_sectorsOf_0 : Cond.fieldLink RX0 29 "ShareDisk$Clients" "sectors" "[I" ∈ wsX0_sectorsOf := by decide +kernel
theorem iwX0_sectorsOf_X0 : ∀ w ∈ wsX00, w ∈ wsX0_sectorsOf := by decide +kernel
set_option maxHeartbeats 4000000 in
set_option maxRecDepth 100000 in
theorem kX0_sectorsOf (l : Launch) (D : va_G) (k : Nat → ClassId) (q : Nat → Nat) (zz : Nat) (th co bu : Nat → Int32) (tg : Nat → Int64) (wa se : Nat → Int32) (ld : Nat → Nat → Int64) (id : Nat) (hid : id < 8) : MI l yX0_sectorsOf wsX0_sectorsOf ({ frames := 0, cells := 0, slots := 0, locals := 0 } : Room) D k (ClW q k th co bu tg wa se ld) zz [.ref (q 0), .int (nI id)] (fun r9 w9 => r9 = (se id) ∧ w9 = ClW q k th co bu tg wa se ld) 0 0 := by
  refine bodyOf (Qc := fun A => QI D k (fun r9 w9 => r9 = (se id) ∧ w9 = ClW q k th co bu tg wa se ld) A) (cc := cX0_sectorsOf) (maxL := 2) (ret := (some .int)) (by decide) rfl (Nat.le_of_ble_eq_true rfl) ?_
  intro p e s m below meth c A ls hc hA hK hP hD hS hl
  obtain ⟨hx, hb, hml, hr, hts, hown, hlocks, hin⟩ := (show _ from hc)
  have hl : lv_has ls 2 [(0, .ref (q 0)), (1, .int (nI id))] := hl
  refine lv_aload_n hx hb dX0_sectorsOf_0 rfl (lv_at hl 0 rfl) ?_
  refine va_get (D := D) (ci := 0) (v := .ref (q 6)) (C := RX0) (T := TX0) (N := 7) hx hb hts iwX0_sectorsOf_X0 hown hK hP 0 rfl rfl 5 (by decide) (hts (Cond.fieldLink RX0 29 "ShareDisk$Clients" "sectors" "[I") mwX0_sectorsOf_0) (fun _ h9 => h9) rfl dX0_sectorsOf_1 ?_
  refine lv_iload_n hx hb dX0_sectorsOf_4 rfl (lv_at hl 1 rfl) ?_
  refine aI hx hb hK hP 6 1 rfl rfl (ix8 hid) dX0_sectorsOf_5 ?_
  exact retI hc dX0_sectorsOf_6 hK hP hD hS (⟨rfl, rfl⟩) (Nat.le_of_ble_eq_true rfl) (Nat.le_of_ble_eq_true rfl)
theorem mwX0_enter_0 : Cond.fieldLink RX0 9 "ShareDisk$Clients" "there" "[Z" ∈ wsX0_enter := by decide +kernel
theorem mwX0_enter_1 : Cond.fieldLink RX0 22 "ShareDisk$Clients" "tag" "[J" ∈ wsX0_enter := by decide +kernel
theorem iwX0_enter_X0 : ∀ w ∈ wsX00, w ∈ wsX0_enter := by decide +kernel
set_option maxHeartbeats 4000000 in
set_option maxRecDepth 100000 in
theorem kX0_enter (l : Launch) (D : va_G) (k : Nat → ClassId) (q : Nat → Nat) (zz : Nat) (th co bu : Nat → Int32) (tg : Nat → Int64) (wa se : Nat → Int32) (ld : Nat → Nat → Int64) (id : Nat) (x : Int64) (hid : id < 8) : MV l yX0_enter wsX0_enter ({ frames := 0, cells := 0, slots := 0, locals := 0 } : Room) D k (ClW q k th co bu tg wa se ld) zz [.ref (q 0), .int (nI id), .long x] (fun w9 => w9 = ClW q k (upd th id (nI 1)) co bu (vp_updL tg id x) wa se ld) 0 0 := by
  refine bodyOf (Qc := fun A => QV D k (fun w9 => w9 = ClW q k (upd th id (nI 1)) co bu (vp_updL tg id x) wa se ld) A) (cc := cX0_enter) (maxL := 4) (ret := none) (by decide) rfl (Nat.le_of_ble_eq_true rfl) ?_
  intro p e s m below meth c A ls hc hA hK hP hD hS hl
  obtain ⟨hx, hb, hml, hr, hts, hown, hlocks, hin⟩ := (show _ from hc)
  have hl : lv_has ls 4 [(0, .ref (q 0)), (1, .int (nI id)), (2, .long x)] := hl
  refine lv_aload_n hx hb dX0_enter_0 rfl (lv_at hl 0 rfl) ?_
  refine va_get (D := D) (ci := 0) (v := .ref (q 1)) (C := RX0) (T := TX0) (N := 7) hx hb hts iwX0_enter_X0 hown hK hP 0 rfl rfl 0 (by decide) (hts (Cond.fieldLink RX0 9 "ShareDisk$Clients" "there" "[Z") mwX0_enter_0) (fun _ h9 => h9) rfl dX0_enter_1 ?_
  refine lv_iload_n hx hb dX0_enter_4 rfl (lv_at hl 1 rfl) ?_
  refine lv_iconst (v := nI 1) hx hb dX0_enter_5 (by decide) ?_
  refine sZ hx hb hK hP hD hS 1 0 rfl rfl (ix8 hid) (Or.inr rfl) dX0_enter_6 (fun H locs hP hD hS => ?_)
  have hP : va_P D vwCl (ClW q k (upd th id (nI 1)) co bu tg wa se ld) H := hP
  have hD : va_D A (ClW q k (upd th id (nI 1)) co bu tg wa se ld) := hD
  refine lv_aload_n hx hb dX0_enter_7 rfl (lv_at hl 0 rfl) ?_
  refine va_get (D := D) (ci := 0) (v := .ref (q 4)) (C := RX0) (T := TX0) (N := 7) hx hb hts iwX0_enter_X0 hown hK hP 0 rfl rfl 3 (by decide) (hts (Cond.fieldLink RX0 22 "ShareDisk$Clients" "tag" "[J") mwX0_enter_1) (fun _ h9 => h9) rfl dX0_enter_8 ?_
  refine lv_iload_n hx hb dX0_enter_11 rfl (lv_at hl 1 rfl) ?_
  refine lv_lload_n hx hb dX0_enter_12 rfl (lv_at hl 2 rfl) ?_
  refine sJ hx hb hK hP hD hS 4 2 rfl rfl (ix8 hid) dX0_enter_13 (fun H locs hP hD hS => ?_)
  have hP : va_P D vwCl (ClW q k (upd th id (nI 1)) co bu (vp_updL tg id x) wa se ld) H := hP
  have hD : va_D A (ClW q k (upd th id (nI 1)) co bu (vp_updL tg id x) wa se ld) := hD
  exact retV hc dX0_enter_14 hK hP hD hS (rfl) (Nat.le_of_ble_eq_true rfl) (Nat.le_of_ble_eq_true rfl)
theorem mwX0_setShare_0 : Cond.fieldLink RX0 15 "ShareDisk$Clients" "sectorCost" "[I" ∈ wsX0_setShare := by decide +kernel
theorem mwX0_setShare_1 : Cond.fieldLink RX0 19 "ShareDisk$Clients" "budget" "[I" ∈ wsX0_setShare := by decide +kernel
theorem iwX0_setShare_X0 : ∀ w ∈ wsX00, w ∈ wsX0_setShare := by decide +kernel
set_option maxHeartbeats 4000000 in
set_option maxRecDepth 100000 in
theorem kX0_setShare (l : Launch) (D : va_G) (k : Nat → ClassId) (q : Nat → Nat) (zz : Nat) (th co bu : Nat → Int32) (tg : Nat → Int64) (wa se : Nat → Int32) (ld : Nat → Nat → Int64) (id : Nat) (x : Int32) (y : Int32) (hid : id < 8) : MV l yX0_setShare wsX0_setShare ({ frames := 0, cells := 0, slots := 0, locals := 0 } : Room) D k (ClW q k th co bu tg wa se ld) zz [.ref (q 0), .int (nI id), .int x, .int y] (fun w9 => w9 = ClW q k th (upd co id x) (upd bu id y) tg wa se ld) 0 0 := by
  refine bodyOf (Qc := fun A => QV D k (fun w9 => w9 = ClW q k th (upd co id x) (upd bu id y) tg wa se ld) A) (cc := cX0_setShare) (maxL := 4) (ret := none) (by decide) rfl (Nat.le_of_ble_eq_true rfl) ?_
  intro p e s m below meth c A ls hc hA hK hP hD hS hl
  obtain ⟨hx, hb, hml, hr, hts, hown, hlocks, hin⟩ := (show _ from hc)
  have hl : lv_has ls 4 [(0, .ref (q 0)), (1, .int (nI id)), (2, .int x), (3, .int y)] := hl
  refine lv_aload_n hx hb dX0_setShare_0 rfl (lv_at hl 0 rfl) ?_
  refine va_get (D := D) (ci := 0) (v := .ref (q 2)) (C := RX0) (T := TX0) (N := 7) hx hb hts iwX0_setShare_X0 hown hK hP 0 rfl rfl 1 (by decide) (hts (Cond.fieldLink RX0 15 "ShareDisk$Clients" "sectorCost" "[I") mwX0_setShare_0) (fun _ h9 => h9) rfl dX0_setShare_1 ?_
  refine lv_iload_n hx hb dX0_setShare_4 rfl (lv_at hl 1 rfl) ?_
  refine lv_iload_n hx hb dX0_setShare_5 rfl (lv_at hl 2 rfl) ?_
  refine sI hx hb hK hP hD hS 2 1 rfl rfl (ix8 hid) dX0_setShare_6 (fun H locs hP hD hS => ?_)
  have hP : va_P D vwCl (ClW q k th (upd co id x) bu tg wa se ld) H := hP
  have hD : va_D A (ClW q k th (upd co id x) bu tg wa se ld) := hD
  refine lv_aload_n hx hb dX0_setShare_7 rfl (lv_at hl 0 rfl) ?_
  refine va_get (D := D) (ci := 0) (v := .ref (q 3)) (C := RX0) (T := TX0) (N := 7) hx hb hts iwX0_setShare_X0 hown hK hP 0 rfl rfl 2 (by decide) (hts (Cond.fieldLink RX0 19 "ShareDisk$Clients" "budget" "[I") mwX0_setShare_1) (fun _ h9 => h9) rfl dX0_setShare_8 ?_
  refine lv_iload_n hx hb dX0_setShare_11 rfl (lv_at hl 1 rfl) ?_
  refine lv_iload_n hx hb dX0_setShare_12 rfl (lv_at hl 3 rfl) ?_
  refine sI hx hb hK hP hD hS 3 1 rfl rfl (ix8 hid) dX0_setShare_13 (fun H locs hP hD hS => ?_)
  have hP : va_P D vwCl (ClW q k th (upd co id x) (upd bu id y) tg wa se ld) H := hP
  have hD : va_D A (ClW q k th (upd co id x) (upd bu id y) tg wa se ld) := hD
  exact retV hc dX0_setShare_14 hK hP hD hS (rfl) (Nat.le_of_ble_eq_true rfl) (Nat.le_of_ble_eq_true rfl)
theorem mwX0_leave_0 : Cond.fieldLink RX0 9 "ShareDisk$Clients" "there" "[Z" ∈ wsX0_leave := by decide +kernel
theorem mwX0_leave_1 : Cond.fieldLink RX0 29 "ShareDisk$Clients" "sectors" "[I" ∈ wsX0_leave := by decide +kernel
theorem iwX0_leave_X0 : ∀ w ∈ wsX00, w ∈ wsX0_leave := by decide +kernel
set_option maxHeartbeats 4000000 in
set_option maxRecDepth 100000 in
theorem kX0_leave (l : Launch) (D : va_G) (k : Nat → ClassId) (q : Nat → Nat) (zz : Nat) (th co bu : Nat → Int32) (tg : Nat → Int64) (wa se : Nat → Int32) (ld : Nat → Nat → Int64) (id : Nat) (hid : id < 8) : MV l yX0_leave wsX0_leave ({ frames := 0, cells := 0, slots := 0, locals := 0 } : Room) D k (ClW q k th co bu tg wa se ld) zz [.ref (q 0), .int (nI id)] (fun w9 => w9 = ClW q k (upd th id (nI 0)) co bu tg wa (upd se id (nI 0)) ld) 0 0 := by
  refine bodyOf (Qc := fun A => QV D k (fun w9 => w9 = ClW q k (upd th id (nI 0)) co bu tg wa (upd se id (nI 0)) ld) A) (cc := cX0_leave) (maxL := 2) (ret := none) (by decide) rfl (Nat.le_of_ble_eq_true rfl) ?_
  intro p e s m below meth c A ls hc hA hK hP hD hS hl
  obtain ⟨hx, hb, hml, hr, hts, hown, hlocks, hin⟩ := (show _ from hc)
  have hl : lv_has ls 2 [(0, .ref (q 0)), (1, .int (nI id))] := hl
  refine lv_aload_n hx hb dX0_leave_0 rfl (lv_at hl 0 rfl) ?_
  refine va_get (D := D) (ci := 0) (v := .ref (q 1)) (C := RX0) (T := TX0) (N := 7) hx hb hts iwX0_leave_X0 hown hK hP 0 rfl rfl 0 (by decide) (hts (Cond.fieldLink RX0 9 "ShareDisk$Clients" "there" "[Z") mwX0_leave_0) (fun _ h9 => h9) rfl dX0_leave_1 ?_
  refine lv_iload_n hx hb dX0_leave_4 rfl (lv_at hl 1 rfl) ?_
  refine lv_iconst (v := nI 0) hx hb dX0_leave_5 (by decide) ?_
  refine sZ hx hb hK hP hD hS 1 0 rfl rfl (ix8 hid) (Or.inl rfl) dX0_leave_6 (fun H locs hP hD hS => ?_)
  have hP : va_P D vwCl (ClW q k (upd th id (nI 0)) co bu tg wa se ld) H := hP
  have hD : va_D A (ClW q k (upd th id (nI 0)) co bu tg wa se ld) := hD
  refine lv_aload_n hx hb dX0_leave_7 rfl (lv_at hl 0 rfl) ?_
  refine va_get (D := D) (ci := 0) (v := .ref (q 6)) (C := RX0) (T := TX0) (N := 7) hx hb hts iwX0_leave_X0 hown hK hP 0 rfl rfl 5 (by decide) (hts (Cond.fieldLink RX0 29 "ShareDisk$Clients" "sectors" "[I") mwX0_leave_1) (fun _ h9 => h9) rfl dX0_leave_8 ?_
  refine lv_iload_n hx hb dX0_leave_11 rfl (lv_at hl 1 rfl) ?_
  refine lv_iconst (v := nI 0) hx hb dX0_leave_12 (by decide) ?_
  refine sI hx hb hK hP hD hS 6 1 rfl rfl (ix8 hid) dX0_leave_13 (fun H locs hP hD hS => ?_)
  have hP : va_P D vwCl (ClW q k (upd th id (nI 0)) co bu tg wa (upd se id (nI 0)) ld) H := hP
  have hD : va_D A (ClW q k (upd th id (nI 0)) co bu tg wa (upd se id (nI 0)) ld) := hD
  exact retV hc dX0_leave_14 hK hP hD hS (rfl) (Nat.le_of_ble_eq_true rfl) (Nat.le_of_ble_eq_true rfl)
theorem mwX0_howMany_0 : Cond.fieldLink RX0 9 "ShareDisk$Clients" "there" "[Z" ∈ wsX0_howMany := by decide +kernel
theorem iwX0_howMany_X0 : ∀ w ∈ wsX00, w ∈ wsX0_howMany := by decide +kernel
set_option maxHeartbeats 4000000 in
set_option maxRecDepth 100000 in
theorem kX0_howMany (l : Launch) (D : va_G) (k : Nat → ClassId) (q : Nat → Nat) (zz : Nat) (th co bu : Nat → Int32) (tg : Nat → Int64) (wa se : Nat → Int32) (ld : Nat → Nat → Int64) : MI l yX0_howMany wsX0_howMany ({ frames := 0, cells := 0, slots := 0, locals := 0 } : Room) D k (ClW q k th co bu tg wa se ld) zz [.ref (q 0)] (fun r9 w9 => r9 = (nI (hmN th 8)) ∧ w9 = ClW q k th co bu tg wa se ld) 0 0 := by
  refine bodyOf (Qc := fun A => QI D k (fun r9 w9 => r9 = (nI (hmN th 8)) ∧ w9 = ClW q k th co bu tg wa se ld) A) (cc := cX0_howMany) (maxL := 3) (ret := (some .int)) (by decide) rfl (Nat.le_of_ble_eq_true rfl) ?_
  intro p e s m below meth c A ls hc hA hK hP hD hS hl
  obtain ⟨hx, hb, hml, hr, hts, hown, hlocks, hin⟩ := (show _ from hc)
  have hl : lv_has ls 3 [(0, .ref (q 0))] := hl
  refine lv_iconst (v := nI 0) hx hb dX0_howMany_0 (by decide) ?_
  refine lv_istore_n (lv' := [(1, .int (nI 0)), (0, .ref (q 0))]) hx hb dX0_howMany_1 rfl hl (by decide) rfl (fun ls hl => ?_)
  refine lv_iconst (v := nI 0) hx hb dX0_howMany_2 (by decide) ?_
  refine lv_istore_n (lv' := [(2, .int (nI 0)), (1, .int (nI 0)), (0, .ref (q 0))]) hx hb dX0_howMany_3 rfl hl (by decide) rfl (fun ls hl => ?_)
  have loop4 : ∀ (n : Nat) (i : Nat) (f : Nat), (i ≤ 8) → (f = hmN th i) → 8 - i < n → ∀ (H : Heap) (locs : List Loc) (ls : Array Slot), va_P D vwCl (ClW q k th co bu tg wa se ld) H → va_D A (ClW q k th co bu tg wa se ld) → va_S A s.heap H locs → lv_has ls 3 [(0, .ref (q 0)), (1, .int (nI f)), (2, .int (nI i))] → W p l e ({ frames := 0, cells := 0, slots := 0, locals := 0 } : Room) s m [.ref (q 0)].toArray below meth c H locs 0 0 (MQ below (QI D k (fun r9 w9 => r9 = (nI (hmN th 8)) ∧ w9 = ClW q k th co bu tg wa se ld) A) [.ref (q 0)].toArray s 0 0 A) (F0 m 4 ls []) := by
    intro n
    induction n with
    | zero => intro i f hi hf hn9; exact absurd hn9 (Nat.not_lt_zero _)
    | succ n ih =>
      intro i f hi hf hn9 H locs ls hP hD hS hl
      refine lv_iload_n hx hb dX0_howMany_4 rfl (lv_at hl 2 rfl) ?_
      refine lv_bipush (v := nI 8) hx hb dX0_howMany_5 (by decide) ?_
      refine lv_icmp_ge (tgt := 28) hx hb dX0_howMany_7 (by decide) (fun c1 => ?_) (fun c1 => ?_)
      · have hi8 : i = 8 := lp_ge (by decide) hi c1
        refine lv_iload_n hx hb dX0_howMany_28 rfl (lv_at hl 1 rfl) ?_
        exact retI hc dX0_howMany_29 hK hP hD hS (⟨by rw [hf, hi8], rfl⟩) (Nat.le_of_ble_eq_true rfl) (Nat.le_of_ble_eq_true rfl)
      · have hi8 : i < 8 := lp_lt (by decide) hi c1
        refine lv_aload_n hx hb dX0_howMany_10 rfl (lv_at hl 0 rfl) ?_
        refine va_get (D := D) (ci := 0) (v := .ref (q 1)) (C := RX0) (T := TX0) (N := 7) hx hb hts iwX0_howMany_X0 hown hK hP 0 rfl rfl 0 (by decide) (hts (Cond.fieldLink RX0 9 "ShareDisk$Clients" "there" "[Z") mwX0_howMany_0) (fun _ h9 => h9) rfl dX0_howMany_11 ?_
        refine lv_iload_n hx hb dX0_howMany_14 rfl (lv_at hl 2 rfl) ?_
        refine aZ hx hb hK hP 1 0 rfl rfl (ix8 hi8) dX0_howMany_15 ?_
        refine lv_if_eq (tgt := 22) hx hb dX0_howMany_16 (by decide) (fun c2 => ?_) (fun c2 => ?_)
        · refine lv_iinc (v := nI (i + 1)) (lv' := [(2, .int (nI (i + 1))), (0, .ref (q 0)), (1, .int (nI f))]) hx hb dX0_howMany_22 hl (k := 2) rfl (by rw [show Int32.ofInt 1 = nI 1 by decide, nI_add]) (by decide) rfl (fun ls hl => ?_)
          refine lv_goto (tgt := 4) hx hb dX0_howMany_25 (by decide) ?_
          exact ih (i + 1) (f) (by omega) (by simp [hmN, hf, c2]) (by omega) _ _ _ hP hD hS (lv_sub hl [1, 2, 0] rfl)
        · refine lv_iinc (v := nI (f + 1)) (lv' := [(1, .int (nI (f + 1))), (0, .ref (q 0)), (2, .int (nI i))]) hx hb dX0_howMany_19 hl (k := 1) rfl (by rw [show Int32.ofInt 1 = nI 1 by decide, nI_add]) (by decide) rfl (fun ls hl => ?_)
          refine lv_iinc (v := nI (i + 1)) (lv' := [(2, .int (nI (i + 1))), (1, .int (nI (f + 1))), (0, .ref (q 0))]) hx hb dX0_howMany_22 hl (k := 2) rfl (by rw [show Int32.ofInt 1 = nI 1 by decide, nI_add]) (by decide) rfl (fun ls hl => ?_)
          refine lv_goto (tgt := 4) hx hb dX0_howMany_25 (by decide) ?_
          exact ih (i + 1) (f + 1) (by omega) (by simp [hmN, hf, c2]) (by omega) _ _ _ hP hD hS (lv_sub hl [2, 1, 0] rfl)
  exact loop4 _ 0 0 (by omega) rfl (Nat.lt_succ_self _) s.heap _ _ hP hD hS (lv_sub hl [2, 1, 0] rfl)
theorem mwX0_forgetLead_0 : Cond.fieldLink RX0 34 "ShareDisk$Clients" "lead" "[[J" ∈ wsX0_forgetLead := by decide +kernel
theorem iwX0_forgetLead_X0 : ∀ w ∈ wsX00, w ∈ wsX0_forgetLead := by decide +kernel
set_option maxHeartbeats 4000000 in
set_option maxRecDepth 100000 in
theorem kX0_forgetLead (l : Launch) (D : va_G) (k : Nat → ClassId) (q : Nat → Nat) (zz : Nat) (th co bu : Nat → Int32) (tg : Nat → Int64) (wa se : Nat → Int32) (ld : Nat → Nat → Int64) (id : Nat) (hid : id < 8) : MV l yX0_forgetLead wsX0_forgetLead ({ frames := 0, cells := 0, slots := 0, locals := 0 } : Room) D k (ClW q k th co bu tg wa se ld) zz [.ref (q 0), .int (nI id)] (fun w9 => w9 = ClW q k th co bu tg wa se (fgL ld id 8)) 0 0 := by
  refine bodyOf (Qc := fun A => QV D k (fun w9 => w9 = ClW q k th co bu tg wa se (fgL ld id 8)) A) (cc := cX0_forgetLead) (maxL := 3) (ret := none) (by decide) rfl (Nat.le_of_ble_eq_true rfl) ?_
  intro p e s m below meth c A ls hc hA hK hP hD hS hl
  obtain ⟨hx, hb, hml, hr, hts, hown, hlocks, hin⟩ := (show _ from hc)
  have hl : lv_has ls 3 [(0, .ref (q 0)), (1, .int (nI id))] := hl
  refine lv_iconst (v := nI 0) hx hb dX0_forgetLead_0 (by decide) ?_
  refine lv_istore_n (lv' := [(2, .int (nI 0)), (0, .ref (q 0)), (1, .int (nI id))]) hx hb dX0_forgetLead_1 rfl hl (by decide) rfl (fun ls hl => ?_)
  have loop2 : ∀ (n : Nat) (i : Nat) (L : Nat → Nat → Int64), (i ≤ 8) → (L = fgL ld id i) → 8 - i < n → ∀ (H : Heap) (locs : List Loc) (ls : Array Slot), va_P D vwCl (ClW q k th co bu tg wa se L) H → va_D A (ClW q k th co bu tg wa se L) → va_S A s.heap H locs → lv_has ls 3 [(0, .ref (q 0)), (1, .int (nI id)), (2, .int (nI i))] → W p l e ({ frames := 0, cells := 0, slots := 0, locals := 0 } : Room) s m [.ref (q 0), .int (nI id)].toArray below meth c H locs 0 0 (MQ below (QV D k (fun w9 => w9 = ClW q k th co bu tg wa se (fgL ld id 8)) A) [.ref (q 0), .int (nI id)].toArray s 0 0 A) (F0 m 2 ls []) := by
    intro n
    induction n with
    | zero => intro i L hi hL hn9; exact absurd hn9 (Nat.not_lt_zero _)
    | succ n ih =>
      intro i L hi hL hn9 H locs ls hP hD hS hl
      refine lv_iload_n hx hb dX0_forgetLead_2 rfl (lv_at hl 2 rfl) ?_
      refine lv_bipush (v := nI 8) hx hb dX0_forgetLead_3 (by decide) ?_
      refine lv_icmp_ge (tgt := 32) hx hb dX0_forgetLead_5 (by decide) (fun c1 => ?_) (fun c1 => ?_)
      · have hi8 : i = 8 := lp_ge (by decide) hi c1
        exact retV hc dX0_forgetLead_32 hK hP hD hS (by rw [hL, hi8]) (Nat.le_of_ble_eq_true rfl) (Nat.le_of_ble_eq_true rfl)
      · have hi8 : i < 8 := lp_lt (by decide) hi c1
        refine lv_aload_n hx hb dX0_forgetLead_8 rfl (lv_at hl 0 rfl) ?_
        refine va_get (D := D) (ci := 0) (v := .ref (q 7)) (C := RX0) (T := TX0) (N := 7) hx hb hts iwX0_forgetLead_X0 hown hK hP 0 rfl rfl 6 (by decide) (hts (Cond.fieldLink RX0 34 "ShareDisk$Clients" "lead" "[[J") mwX0_forgetLead_0) (fun _ h9 => h9) rfl dX0_forgetLead_9 ?_
        refine lv_iload_n hx hb dX0_forgetLead_12 rfl (lv_at hl 1 rfl) ?_
        refine aG hx hb hK hP 7 3 (r := q (8 + id)) rfl rfl (ix8 hid) rfl dX0_forgetLead_13 ?_
        refine lv_iload_n hx hb dX0_forgetLead_14 rfl (lv_at hl 2 rfl) ?_
        refine lv_lconst (v := 0) hx hb dX0_forgetLead_15 rfl ?_
        refine sJ hx hb hK hP hD hS (8 + id) 2 (ClW_row hid) rfl (ix8 hi8) dX0_forgetLead_16 (fun H locs hP hD hS => ?_)
        rw [ClW_set hid] at hP hD
        have hP : va_P D vwCl (ClW q k th co bu tg wa se (va_up L id (vp_updL (L id) i 0))) H := hP
        have hD : va_D A (ClW q k th co bu tg wa se (va_up L id (vp_updL (L id) i 0))) := hD
        refine lv_aload_n hx hb dX0_forgetLead_17 rfl (lv_at hl 0 rfl) ?_
        refine va_get (D := D) (ci := 0) (v := .ref (q 7)) (C := RX0) (T := TX0) (N := 7) hx hb hts iwX0_forgetLead_X0 hown hK hP 0 rfl rfl 6 (by decide) (hts (Cond.fieldLink RX0 34 "ShareDisk$Clients" "lead" "[[J") mwX0_forgetLead_0) (fun _ h9 => h9) rfl dX0_forgetLead_18 ?_
        refine lv_iload_n hx hb dX0_forgetLead_21 rfl (lv_at hl 2 rfl) ?_
        refine aG hx hb hK hP 7 3 (r := q (8 + i)) rfl rfl (ix8 hi8) rfl dX0_forgetLead_22 ?_
        refine lv_iload_n hx hb dX0_forgetLead_23 rfl (lv_at hl 1 rfl) ?_
        refine lv_lconst (v := 0) hx hb dX0_forgetLead_24 rfl ?_
        refine sJ hx hb hK hP hD hS (8 + i) 2 (ClW_row hi8) rfl (ix8 hid) dX0_forgetLead_25 (fun H locs hP hD hS => ?_)
        rw [ClW_set hi8] at hP hD
        have hP : va_P D vwCl (ClW q k th co bu tg wa se (va_up (va_up L id (vp_updL (L id) i 0)) i (vp_updL ((va_up L id (vp_updL (L id) i 0)) i) id 0))) H := hP
        have hD : va_D A (ClW q k th co bu tg wa se (va_up (va_up L id (vp_updL (L id) i 0)) i (vp_updL ((va_up L id (vp_updL (L id) i 0)) i) id 0))) := hD
        refine lv_iinc (v := nI (i + 1)) (lv' := [(2, .int (nI (i + 1))), (0, .ref (q 0)), (1, .int (nI id))]) hx hb dX0_forgetLead_26 hl (k := 2) rfl (by rw [show Int32.ofInt 1 = nI 1 by decide, nI_add]) (by decide) rfl (fun ls hl => ?_)
        refine lv_goto (tgt := 2) hx hb dX0_forgetLead_29 (by decide) ?_
        exact ih (i + 1) _ (by omega) (by rw [hL]; rfl) (by omega) _ _ _ hP hD hS (lv_sub hl [1, 2, 0] rfl)
  exact loop2 _ 0 ld (by omega) rfl (Nat.lt_succ_self _) s.heap _ _ hP hD hS (lv_sub hl [1, 2, 0] rfl)
theorem mwX0_noteRequest_0 : Cond.fieldLink RX0 26 "ShareDisk$Clients" "waiting" "[I" ∈ wsX0_noteRequest := by decide +kernel
theorem mwX0_noteRequest_1 : Cond.fieldLink RX0 22 "ShareDisk$Clients" "tag" "[J" ∈ wsX0_noteRequest := by decide +kernel
theorem mwX0_noteRequest_2 : Cond.methodLink RX0 37 Lib.MathLoose.max_long.x ∈ wsX0_noteRequest := by decide +kernel
theorem mwX0_noteRequest_3 : Cond.static Lib.MathLoose.max_long.x ∈ wsX0_noteRequest := by decide +kernel
theorem mwX0_noteRequest_4 : Cond.initialized "java/lang/Math" ∈ wsX0_noteRequest := by decide +kernel
theorem mwX0_noteRequest_5 : Cond.code Lib.MathLoose.max_long.x Lib.MathLoose.max_long.code 4 (some .long) ∈ wsX0_noteRequest := by decide +kernel
theorem iwX0_noteRequest_X0 : ∀ w ∈ wsX00, w ∈ wsX0_noteRequest := by decide +kernel
set_option maxHeartbeats 4000000 in
set_option maxRecDepth 100000 in
theorem kX0_noteRequest (l : Launch) (D : va_G) (k : Nat → ClassId) (q : Nat → Nat) (zz : Nat) (th co bu : Nat → Int32) (tg : Nat → Int64) (wa se : Nat → Int32) (ld : Nat → Nat → Int64) (id : Nat) (x : Int64) (hid : id < 8) : MV l yX0_noteRequest wsX0_noteRequest ({ frames := 1, cells := 0, slots := 0, locals := 23 } : Room) D k (ClW q k th co bu tg wa se ld) zz [.ref (q 0), .int (nI id), .long x] (fun w9 => w9 = ClW q k th co bu (if wa id = 0 then vp_updL tg id (mxL (tg id) x) else tg) (upd wa id (wa id + nI 1)) se (if wa id = 0 then fgL ld id 8 else ld)) 0 0 := by
  refine bodyOf (Qc := fun A => QV D k (fun w9 => w9 = ClW q k th co bu (if wa id = 0 then vp_updL tg id (mxL (tg id) x) else tg) (upd wa id (wa id + nI 1)) se (if wa id = 0 then fgL ld id 8 else ld)) A) (cc := cX0_noteRequest) (maxL := 4) (ret := none) (by decide) rfl (Nat.le_of_ble_eq_true rfl) ?_
  intro p e s m below meth c A ls hc hA hK hP hD hS hl
  obtain ⟨hx, hb, hml, hr, hts, hown, hlocks, hin⟩ := (show _ from hc)
  have hl : lv_has ls 4 [(0, .ref (q 0)), (1, .int (nI id)), (2, .long x)] := hl
  refine lv_aload_n hx hb dX0_noteRequest_0 rfl (lv_at hl 0 rfl) ?_
  refine va_get (D := D) (ci := 0) (v := .ref (q 5)) (C := RX0) (T := TX0) (N := 7) hx hb hts iwX0_noteRequest_X0 hown hK hP 0 rfl rfl 4 (by decide) (hts (Cond.fieldLink RX0 26 "ShareDisk$Clients" "waiting" "[I") mwX0_noteRequest_0) (fun _ h9 => h9) rfl dX0_noteRequest_1 ?_
  refine lv_iload_n hx hb dX0_noteRequest_4 rfl (lv_at hl 1 rfl) ?_
  refine aI hx hb hK hP 5 1 rfl rfl (ix8 hid) dX0_noteRequest_5 ?_
  refine lv_if_ne (tgt := 30) hx hb dX0_noteRequest_6 (by decide) (fun c1 => ?_) (fun c1 => ?_)
  · refine lv_aload_n hx hb dX0_noteRequest_30 rfl (lv_at hl 0 rfl) ?_
    refine va_get (D := D) (ci := 0) (v := .ref (q 5)) (C := RX0) (T := TX0) (N := 7) hx hb hts iwX0_noteRequest_X0 hown hK hP 0 rfl rfl 4 (by decide) (hts (Cond.fieldLink RX0 26 "ShareDisk$Clients" "waiting" "[I") mwX0_noteRequest_0) (fun _ h9 => h9) rfl dX0_noteRequest_31 ?_
    refine lv_iload_n hx hb dX0_noteRequest_34 rfl (lv_at hl 1 rfl) ?_
    refine lv_dup2_11 hx hb dX0_noteRequest_35 rfl rfl ?_
    refine aI hx hb hK hP 5 1 rfl rfl (ix8 hid) dX0_noteRequest_36 ?_
    refine lv_iconst (v := nI 1) hx hb dX0_noteRequest_37 (by decide) ?_
    refine lv_iadd hx hb dX0_noteRequest_38 ?_
    refine sI hx hb hK hP hD hS 5 1 rfl rfl (ix8 hid) dX0_noteRequest_39 (fun H locs hP hD hS => ?_)
    have hP : va_P D vwCl (ClW q k th co bu tg (upd wa id ((wa id) + (nI 1))) se ld) H := hP
    have hD : va_D A (ClW q k th co bu tg (upd wa id ((wa id) + (nI 1))) se ld) := hD
    exact retV hc dX0_noteRequest_40 hK hP hD hS (by rw [if_neg c1, if_neg c1]) (Nat.le_of_ble_eq_true rfl) (Nat.le_of_ble_eq_true rfl)
  · refine lv_aload_n hx hb dX0_noteRequest_9 rfl (lv_at hl 0 rfl) ?_
    refine va_get (D := D) (ci := 0) (v := .ref (q 4)) (C := RX0) (T := TX0) (N := 7) hx hb hts iwX0_noteRequest_X0 hown hK hP 0 rfl rfl 3 (by decide) (hts (Cond.fieldLink RX0 22 "ShareDisk$Clients" "tag" "[J") mwX0_noteRequest_1) (fun _ h9 => h9) rfl dX0_noteRequest_10 ?_
    refine lv_iload_n hx hb dX0_noteRequest_13 rfl (lv_at hl 1 rfl) ?_
    refine lv_aload_n hx hb dX0_noteRequest_14 rfl (lv_at hl 0 rfl) ?_
    refine va_get (D := D) (ci := 0) (v := .ref (q 4)) (C := RX0) (T := TX0) (N := 7) hx hb hts iwX0_noteRequest_X0 hown hK hP 0 rfl rfl 3 (by decide) (hts (Cond.fieldLink RX0 22 "ShareDisk$Clients" "tag" "[J") mwX0_noteRequest_1) (fun _ h9 => h9) rfl dX0_noteRequest_15 ?_
    refine lv_iload_n hx hb dX0_noteRequest_18 rfl (lv_at hl 1 rfl) ?_
    refine aJ hx hb hK hP 4 2 rfl rfl (ix8 hid) dX0_noteRequest_19 ?_
    refine lv_lload_n hx hb dX0_noteRequest_20 rfl (lv_at hl 2 rfl) ?_
    refine va_mmax_long hx hb (hml.trans hl.1.symm) hown (hts (Cond.methodLink RX0 37 Lib.MathLoose.max_long.x) mwX0_noteRequest_2) (hts (Cond.static Lib.MathLoose.max_long.x) mwX0_noteRequest_3) (hts (Cond.initialized "java/lang/Math") mwX0_noteRequest_4) (hts (Cond.code Lib.MathLoose.max_long.x Lib.MathLoose.max_long.code 4 (some .long)) mwX0_noteRequest_5) (Nat.le_of_ble_eq_true rfl) (Nat.le_of_ble_eq_true rfl) (Nat.le_of_ble_eq_true rfl) (Nat.le_of_ble_eq_true rfl) dX0_noteRequest_21 ?_
    refine sJ hx hb hK hP hD hS 4 2 rfl rfl (ix8 hid) dX0_noteRequest_24 (fun H locs hP hD hS => ?_)
    have hP : va_P D vwCl (ClW q k th co bu (vp_updL tg id (mxL (tg id) x)) wa se ld) H := hP
    have hD : va_D A (ClW q k th co bu (vp_updL tg id (mxL (tg id) x)) wa se ld) := hD
    refine lv_aload_n hx hb dX0_noteRequest_25 rfl (lv_at hl 0 rfl) ?_
    refine lv_iload_n hx hb dX0_noteRequest_26 rfl (lv_at hl 1 rfl) ?_
    refine goVV0 hc (kX0_forgetLead l D k q H.size th co bu (vp_updL tg id (mxL (tg id) x)) wa se ld id (by first | assumption | omega)) (cwV 1 hts gX0_noteRequest_X0_forgetLead rfl rfl rfl (by decide +kernel) ⟨(Nat.le_of_ble_eq_true rfl), (Nat.le_of_ble_eq_true rfl)⟩) hP hD hK hS hA (ci := 0) (q0 := 0) rfl rfl rfl hl.1 rfl (Nat.le_of_ble_eq_true rfl) dX0_noteRequest_27 (Nat.le_of_ble_eq_true rfl) (Nat.le_of_ble_eq_true rfl) (fun B9 H locs hq hP hD hS => ?_)
    subst hq
    have hP : va_P D vwCl (ClW q k th co bu (vp_updL tg id (mxL (tg id) x)) wa se (fgL ld id 8)) H := hP
    have hD : va_D A (ClW q k th co bu (vp_updL tg id (mxL (tg id) x)) wa se (fgL ld id 8)) := hD
    refine lv_aload_n hx hb dX0_noteRequest_30 rfl (lv_at hl 0 rfl) ?_
    refine va_get (D := D) (ci := 0) (v := .ref (q 5)) (C := RX0) (T := TX0) (N := 7) hx hb hts iwX0_noteRequest_X0 hown hK hP 0 rfl rfl 4 (by decide) (hts (Cond.fieldLink RX0 26 "ShareDisk$Clients" "waiting" "[I") mwX0_noteRequest_0) (fun _ h9 => h9) rfl dX0_noteRequest_31 ?_
    refine lv_iload_n hx hb dX0_noteRequest_34 rfl (lv_at hl 1 rfl) ?_
    refine lv_dup2_11 hx hb dX0_noteRequest_35 rfl rfl ?_
    refine aI hx hb hK hP 5 1 rfl rfl (ix8 hid) dX0_noteRequest_36 ?_
    refine lv_iconst (v := nI 1) hx hb dX0_noteRequest_37 (by decide) ?_
    refine lv_iadd hx hb dX0_noteRequest_38 ?_
    refine sI hx hb hK hP hD hS 5 1 rfl rfl (ix8 hid) dX0_noteRequest_39 (fun H locs hP hD hS => ?_)
    have hP : va_P D vwCl (ClW q k th co bu (vp_updL tg id (mxL (tg id) x)) (upd wa id ((wa id) + (nI 1))) se (fgL ld id 8)) H := hP
    have hD : va_D A (ClW q k th co bu (vp_updL tg id (mxL (tg id) x)) (upd wa id ((wa id) + (nI 1))) se (fgL ld id 8)) := hD
    exact retV hc dX0_noteRequest_40 hK hP hD hS (by rw [if_pos c1, if_pos c1]) (Nat.le_of_ble_eq_true rfl) (Nat.le_of_ble_eq_true rfl)
theorem mwX0_noteService_0 : Cond.fieldLink RX0 15 "ShareDisk$Clients" "sectorCost" "[I" ∈ wsX0_noteService := by decide +kernel
theorem mwX0_noteService_1 : Cond.fieldLink RX0 22 "ShareDisk$Clients" "tag" "[J" ∈ wsX0_noteService := by decide +kernel
theorem mwX0_noteService_2 : Cond.fieldLink RX0 29 "ShareDisk$Clients" "sectors" "[I" ∈ wsX0_noteService := by decide +kernel
theorem mwX0_noteService_3 : Cond.fieldLink RX0 26 "ShareDisk$Clients" "waiting" "[I" ∈ wsX0_noteService := by decide +kernel
theorem mwX0_noteService_4 : Cond.fieldLink RX0 34 "ShareDisk$Clients" "lead" "[[J" ∈ wsX0_noteService := by decide +kernel
theorem iwX0_noteService_X0 : ∀ w ∈ wsX00, w ∈ wsX0_noteService := by decide +kernel
set_option maxHeartbeats 4000000 in
set_option maxRecDepth 100000 in
theorem kX0_noteService (l : Launch) (D : va_G) (k : Nat → ClassId) (q : Nat → Nat) (zz : Nat) (th co bu : Nat → Int32) (tg : Nat → Int64) (wa se : Nat → Int32) (ld : Nat → Nat → Int64) (id : Nat) (z : Int32) (hid : id < 8) : MV l yX0_noteService wsX0_noteService ({ frames := 0, cells := 0, slots := 0, locals := 0 } : Room) D k (ClW q k th co bu tg wa se ld) zz [.ref (q 0), .int (nI id), .int z] (fun w9 => w9 = ClW q k th co bu (vp_updL tg id (tg id + (co id).toInt64 * z.toInt64)) (upd wa id (wa id - nI 1)) (upd se id (se id + z)) (nsL ld id ((co id).toInt64 * z.toInt64) 8)) 0 0 := by
  refine bodyOf (Qc := fun A => QV D k (fun w9 => w9 = ClW q k th co bu (vp_updL tg id (tg id + (co id).toInt64 * z.toInt64)) (upd wa id (wa id - nI 1)) (upd se id (se id + z)) (nsL ld id ((co id).toInt64 * z.toInt64) 8)) A) (cc := cX0_noteService) (maxL := 6) (ret := none) (by decide) rfl (Nat.le_of_ble_eq_true rfl) ?_
  intro p e s m below meth c A ls hc hA hK hP hD hS hl
  obtain ⟨hx, hb, hml, hr, hts, hown, hlocks, hin⟩ := (show _ from hc)
  have hl : lv_has ls 6 [(0, .ref (q 0)), (1, .int (nI id)), (2, .int z)] := hl
  refine lv_aload_n hx hb dX0_noteService_0 rfl (lv_at hl 0 rfl) ?_
  refine va_get (D := D) (ci := 0) (v := .ref (q 2)) (C := RX0) (T := TX0) (N := 7) hx hb hts iwX0_noteService_X0 hown hK hP 0 rfl rfl 1 (by decide) (hts (Cond.fieldLink RX0 15 "ShareDisk$Clients" "sectorCost" "[I") mwX0_noteService_0) (fun _ h9 => h9) rfl dX0_noteService_1 ?_
  refine lv_iload_n hx hb dX0_noteService_4 rfl (lv_at hl 1 rfl) ?_
  refine aI hx hb hK hP 2 1 rfl rfl (ix8 hid) dX0_noteService_5 ?_
  refine lv_i2l (v := (co id).toInt64) hx hb dX0_noteService_6 rfl ?_
  refine lv_iload_n hx hb dX0_noteService_7 rfl (lv_at hl 2 rfl) ?_
  refine lv_i2l (v := z.toInt64) hx hb dX0_noteService_8 rfl ?_
  refine lv_lmul hx hb dX0_noteService_9 ?_
  refine lv_lstore_n (lv' := [(3, .long (((co id).toInt64) * z.toInt64)), (0, .ref (q 0)), (1, .int (nI id)), (2, .int z)]) hx hb dX0_noteService_10 rfl hl (by decide) rfl (fun ls hl => ?_)
  refine lv_aload_n hx hb dX0_noteService_11 rfl (lv_at hl 1 rfl) ?_
  refine va_get (D := D) (ci := 0) (v := .ref (q 4)) (C := RX0) (T := TX0) (N := 7) hx hb hts iwX0_noteService_X0 hown hK hP 0 rfl rfl 3 (by decide) (hts (Cond.fieldLink RX0 22 "ShareDisk$Clients" "tag" "[J") mwX0_noteService_1) (fun _ h9 => h9) rfl dX0_noteService_12 ?_
  refine lv_iload_n hx hb dX0_noteService_15 rfl (lv_at hl 2 rfl) ?_
  refine lv_dup2_11 hx hb dX0_noteService_16 rfl rfl ?_
  refine aJ hx hb hK hP 4 2 rfl rfl (ix8 hid) dX0_noteService_17 ?_
  refine lv_lload_n hx hb dX0_noteService_18 rfl (lv_at hl 0 rfl) ?_
  refine lv_ladd hx hb dX0_noteService_19 ?_
  refine sJ hx hb hK hP hD hS 4 2 rfl rfl (ix8 hid) dX0_noteService_20 (fun H locs hP hD hS => ?_)
  have hP : va_P D vwCl (ClW q k th co bu (vp_updL tg id ((tg id) + (((co id).toInt64) * z.toInt64))) wa se ld) H := hP
  have hD : va_D A (ClW q k th co bu (vp_updL tg id ((tg id) + (((co id).toInt64) * z.toInt64))) wa se ld) := hD
  refine lv_aload_n hx hb dX0_noteService_21 rfl (lv_at hl 1 rfl) ?_
  refine va_get (D := D) (ci := 0) (v := .ref (q 6)) (C := RX0) (T := TX0) (N := 7) hx hb hts iwX0_noteService_X0 hown hK hP 0 rfl rfl 5 (by decide) (hts (Cond.fieldLink RX0 29 "ShareDisk$Clients" "sectors" "[I") mwX0_noteService_2) (fun _ h9 => h9) rfl dX0_noteService_22 ?_
  refine lv_iload_n hx hb dX0_noteService_25 rfl (lv_at hl 2 rfl) ?_
  refine lv_dup2_11 hx hb dX0_noteService_26 rfl rfl ?_
  refine aI hx hb hK hP 6 1 rfl rfl (ix8 hid) dX0_noteService_27 ?_
  refine lv_iload_n hx hb dX0_noteService_28 rfl (lv_at hl 3 rfl) ?_
  refine lv_iadd hx hb dX0_noteService_29 ?_
  refine sI hx hb hK hP hD hS 6 1 rfl rfl (ix8 hid) dX0_noteService_30 (fun H locs hP hD hS => ?_)
  have hP : va_P D vwCl (ClW q k th co bu (vp_updL tg id ((tg id) + (((co id).toInt64) * z.toInt64))) wa (upd se id ((se id) + z)) ld) H := hP
  have hD : va_D A (ClW q k th co bu (vp_updL tg id ((tg id) + (((co id).toInt64) * z.toInt64))) wa (upd se id ((se id) + z)) ld) := hD
  refine lv_aload_n hx hb dX0_noteService_31 rfl (lv_at hl 1 rfl) ?_
  refine va_get (D := D) (ci := 0) (v := .ref (q 5)) (C := RX0) (T := TX0) (N := 7) hx hb hts iwX0_noteService_X0 hown hK hP 0 rfl rfl 4 (by decide) (hts (Cond.fieldLink RX0 26 "ShareDisk$Clients" "waiting" "[I") mwX0_noteService_3) (fun _ h9 => h9) rfl dX0_noteService_32 ?_
  refine lv_iload_n hx hb dX0_noteService_35 rfl (lv_at hl 2 rfl) ?_
  refine lv_dup2_11 hx hb dX0_noteService_36 rfl rfl ?_
  refine aI hx hb hK hP 5 1 rfl rfl (ix8 hid) dX0_noteService_37 ?_
  refine lv_iconst (v := nI 1) hx hb dX0_noteService_38 (by decide) ?_
  refine lv_isub hx hb dX0_noteService_39 ?_
  refine sI hx hb hK hP hD hS 5 1 rfl rfl (ix8 hid) dX0_noteService_40 (fun H locs hP hD hS => ?_)
  have hP : va_P D vwCl (ClW q k th co bu (vp_updL tg id ((tg id) + (((co id).toInt64) * z.toInt64))) (upd wa id ((wa id) - (nI 1))) (upd se id ((se id) + z)) ld) H := hP
  have hD : va_D A (ClW q k th co bu (vp_updL tg id ((tg id) + (((co id).toInt64) * z.toInt64))) (upd wa id ((wa id) - (nI 1))) (upd se id ((se id) + z)) ld) := hD
  refine lv_iconst (v := nI 0) hx hb dX0_noteService_41 (by decide) ?_
  refine lv_istore (lv' := [(5, .int (nI 0)), (3, .long (((co id).toInt64) * z.toInt64)), (0, .ref (q 0)), (1, .int (nI id)), (2, .int z)]) hx hb dX0_noteService_42 hl (by decide) rfl (fun ls hl => ?_)
  have loop44 : ∀ (n : Nat) (i : Nat) (L : Nat → Nat → Int64), (i ≤ 8) → (L = nsL ld id ((co id).toInt64 * z.toInt64) i) → 8 - i < n → ∀ (H : Heap) (locs : List Loc) (ls : Array Slot), va_P D vwCl (ClW q k th co bu (vp_updL tg id ((tg id) + (((co id).toInt64) * z.toInt64))) (upd wa id ((wa id) - (nI 1))) (upd se id ((se id) + z)) L) H → va_D A (ClW q k th co bu (vp_updL tg id ((tg id) + (((co id).toInt64) * z.toInt64))) (upd wa id ((wa id) - (nI 1))) (upd se id ((se id) + z)) L) → va_S A s.heap H locs → lv_has ls 6 [(0, .ref (q 0)), (1, .int (nI id)), (2, .int z), (3, .long (((co id).toInt64) * z.toInt64)), (5, .int (nI i))] → W p l e ({ frames := 0, cells := 0, slots := 0, locals := 0 } : Room) s m [.ref (q 0), .int (nI id), .int z].toArray below meth c H locs 0 0 (MQ below (QV D k (fun w9 => w9 = ClW q k th co bu (vp_updL tg id (tg id + (co id).toInt64 * z.toInt64)) (upd wa id (wa id - nI 1)) (upd se id (se id + z)) (nsL ld id ((co id).toInt64 * z.toInt64) 8)) A) [.ref (q 0), .int (nI id), .int z].toArray s 0 0 A) (F0 m 44 ls []) := by
    intro n
    induction n with
    | zero => intro i L hi hL hn9; exact absurd hn9 (Nat.not_lt_zero _)
    | succ n ih =>
      intro i L hi hL hn9 H locs ls hP hD hS hl
      refine lv_iload hx hb dX0_noteService_44 (lv_at hl 4 rfl) ?_
      refine lv_bipush (v := nI 8) hx hb dX0_noteService_46 (by decide) ?_
      refine lv_icmp_ge (tgt := 83) hx hb dX0_noteService_48 (by decide) (fun c1 => ?_) (fun c1 => ?_)
      · have hi8 : i = 8 := lp_ge (by decide) hi c1
        exact retV hc dX0_noteService_83 hK hP hD hS (by rw [hL, hi8]) (Nat.le_of_ble_eq_true rfl) (Nat.le_of_ble_eq_true rfl)
      · have hi8 : i < 8 := lp_lt (by decide) hi c1
        refine lv_aload_n hx hb dX0_noteService_51 rfl (lv_at hl 0 rfl) ?_
        refine va_get (D := D) (ci := 0) (v := .ref (q 7)) (C := RX0) (T := TX0) (N := 7) hx hb hts iwX0_noteService_X0 hown hK hP 0 rfl rfl 6 (by decide) (hts (Cond.fieldLink RX0 34 "ShareDisk$Clients" "lead" "[[J") mwX0_noteService_4) (fun _ h9 => h9) rfl dX0_noteService_52 ?_
        refine lv_iload_n hx hb dX0_noteService_55 rfl (lv_at hl 1 rfl) ?_
        refine aG hx hb hK hP 7 3 (r := q (8 + id)) rfl rfl (ix8 hid) rfl dX0_noteService_56 ?_
        refine lv_iload hx hb dX0_noteService_57 (lv_at hl 4 rfl) ?_
        refine lv_dup2_11 hx hb dX0_noteService_59 rfl rfl ?_
        refine aJ hx hb hK hP (8 + id) 2 (ClW_row hid) rfl (ix8 hi8) dX0_noteService_60 ?_
        refine lv_lload_n hx hb dX0_noteService_61 rfl (lv_at hl 3 rfl) ?_
        refine lv_ladd hx hb dX0_noteService_62 ?_
        refine sJ hx hb hK hP hD hS (8 + id) 2 (ClW_row hid) rfl (ix8 hi8) dX0_noteService_63 (fun H locs hP hD hS => ?_)
        rw [ClW_set hid] at hP hD
        have hP : va_P D vwCl (ClW q k th co bu (vp_updL tg id ((tg id) + (((co id).toInt64) * z.toInt64))) (upd wa id ((wa id) - (nI 1))) (upd se id ((se id) + z)) (va_up L id (vp_updL (L id) i ((L id i) + (((co id).toInt64) * z.toInt64))))) H := hP
        have hD : va_D A (ClW q k th co bu (vp_updL tg id ((tg id) + (((co id).toInt64) * z.toInt64))) (upd wa id ((wa id) - (nI 1))) (upd se id ((se id) + z)) (va_up L id (vp_updL (L id) i ((L id i) + (((co id).toInt64) * z.toInt64))))) := hD
        refine lv_aload_n hx hb dX0_noteService_64 rfl (lv_at hl 0 rfl) ?_
        refine va_get (D := D) (ci := 0) (v := .ref (q 7)) (C := RX0) (T := TX0) (N := 7) hx hb hts iwX0_noteService_X0 hown hK hP 0 rfl rfl 6 (by decide) (hts (Cond.fieldLink RX0 34 "ShareDisk$Clients" "lead" "[[J") mwX0_noteService_4) (fun _ h9 => h9) rfl dX0_noteService_65 ?_
        refine lv_iload hx hb dX0_noteService_68 (lv_at hl 4 rfl) ?_
        refine aG hx hb hK hP 7 3 (r := q (8 + i)) rfl rfl (ix8 hi8) rfl dX0_noteService_70 ?_
        refine lv_iload_n hx hb dX0_noteService_71 rfl (lv_at hl 1 rfl) ?_
        refine lv_dup2_11 hx hb dX0_noteService_72 rfl rfl ?_
        refine aJ hx hb hK hP (8 + i) 2 (ClW_row hi8) rfl (ix8 hid) dX0_noteService_73 ?_
        refine lv_lload_n hx hb dX0_noteService_74 rfl (lv_at hl 3 rfl) ?_
        refine lv_lsub hx hb dX0_noteService_75 ?_
        refine sJ hx hb hK hP hD hS (8 + i) 2 (ClW_row hi8) rfl (ix8 hid) dX0_noteService_76 (fun H locs hP hD hS => ?_)
        rw [ClW_set hi8] at hP hD
        have hP : va_P D vwCl (ClW q k th co bu (vp_updL tg id ((tg id) + (((co id).toInt64) * z.toInt64))) (upd wa id ((wa id) - (nI 1))) (upd se id ((se id) + z)) (va_up (va_up L id (vp_updL (L id) i ((L id i) + (((co id).toInt64) * z.toInt64)))) i (vp_updL ((va_up L id (vp_updL (L id) i ((L id i) + (((co id).toInt64) * z.toInt64)))) i) id (((va_up L id (vp_updL (L id) i ((L id i) + (((co id).toInt64) * z.toInt64)))) i id) - (((co id).toInt64) * z.toInt64))))) H := hP
        have hD : va_D A (ClW q k th co bu (vp_updL tg id ((tg id) + (((co id).toInt64) * z.toInt64))) (upd wa id ((wa id) - (nI 1))) (upd se id ((se id) + z)) (va_up (va_up L id (vp_updL (L id) i ((L id i) + (((co id).toInt64) * z.toInt64)))) i (vp_updL ((va_up L id (vp_updL (L id) i ((L id i) + (((co id).toInt64) * z.toInt64)))) i) id (((va_up L id (vp_updL (L id) i ((L id i) + (((co id).toInt64) * z.toInt64)))) i id) - (((co id).toInt64) * z.toInt64))))) := hD
        refine lv_iinc (v := nI (i + 1)) (lv' := [(5, .int (nI (i + 1))), (0, .ref (q 0)), (1, .int (nI id)), (2, .int z), (3, .long (((co id).toInt64) * z.toInt64))]) hx hb dX0_noteService_77 hl (k := 4) rfl (by rw [show Int32.ofInt 1 = nI 1 by decide, nI_add]) (by decide) rfl (fun ls hl => ?_)
        refine lv_goto (tgt := 44) hx hb dX0_noteService_80 (by decide) ?_
        exact ih (i + 1) _ (by omega) (by rw [hL]; rfl) (by omega) _ _ _ hP hD hS (lv_sub hl [1, 2, 3, 4, 0] rfl)
  exact loop44 _ 0 ld (by omega) rfl (Nat.lt_succ_self _) _ _ _ hP hD hS (lv_sub hl [2, 3, 4, 1, 0] rfl)
theorem mwX0_leadOf_0 : Cond.fieldLink RX0 26 "ShareDisk$Clients" "waiting" "[I" ∈ wsX0_leadOf := by decide +kernel
theorem mwX0_leadOf_1 : Cond.fieldLink RX0 34 "ShareDisk$Clients" "lead" "[[J" ∈ wsX0_leadOf := by decide +kernel
theorem iwX0_leadOf_X0 : ∀ w ∈ wsX00, w ∈ wsX0_leadOf := by decide +kernel
set_option maxHeartbeats 4000000 in
set_option maxRecDepth 100000 in
theorem kX0_leadOf (l : Launch) (D : va_G) (k : Nat → ClassId) (q : Nat → Nat) (zz : Nat) (th co bu : Nat → Int32) (tg : Nat → Int64) (wa se : Nat → Int32) (ld : Nat → Nat → Int64) (a : Nat) (b : Nat) (ha : a < 8) (hb8 : b < 8) : ML l yX0_leadOf wsX0_leadOf ({ frames := 0, cells := 0, slots := 0, locals := 0 } : Room) D k (ClW q k th co bu tg wa se ld) zz [.ref (q 0), .int (nI a), .int (nI b)] (fun r9 w9 => r9 = (if wa a ≤ 0 then 0 else if wa b ≤ 0 then 0 else ld a b) ∧ w9 = ClW q k th co bu tg wa se ld) 0 0 := by
  refine bodyOf (Qc := fun A => QL D k (fun r9 w9 => r9 = (if wa a ≤ 0 then 0 else if wa b ≤ 0 then 0 else ld a b) ∧ w9 = ClW q k th co bu tg wa se ld) A) (cc := cX0_leadOf) (maxL := 3) (ret := (some .long)) (by decide) rfl (Nat.le_of_ble_eq_true rfl) ?_
  intro p e s m below meth c A ls hc hA hK hP hD hS hl
  obtain ⟨hx, hb, hml, hr, hts, hown, hlocks, hin⟩ := (show _ from hc)
  have hl : lv_has ls 3 [(0, .ref (q 0)), (1, .int (nI a)), (2, .int (nI b))] := hl
  refine lv_aload_n hx hb dX0_leadOf_0 rfl (lv_at hl 0 rfl) ?_
  refine va_get (D := D) (ci := 0) (v := .ref (q 5)) (C := RX0) (T := TX0) (N := 7) hx hb hts iwX0_leadOf_X0 hown hK hP 0 rfl rfl 4 (by decide) (hts (Cond.fieldLink RX0 26 "ShareDisk$Clients" "waiting" "[I") mwX0_leadOf_0) (fun _ h9 => h9) rfl dX0_leadOf_1 ?_
  refine lv_iload_n hx hb dX0_leadOf_4 rfl (lv_at hl 1 rfl) ?_
  refine aI hx hb hK hP 5 1 rfl rfl (ix8 ha) dX0_leadOf_5 ?_
  refine lv_if_le (tgt := 29) hx hb dX0_leadOf_6 (by decide) (fun c1 => ?_) (fun c1 => ?_)
  · refine lv_lconst (v := 0) hx hb dX0_leadOf_29 rfl ?_
    exact retL hc dX0_leadOf_30 hK hP hD hS (⟨by simp [c1], rfl⟩) (Nat.le_of_ble_eq_true rfl) (Nat.le_of_ble_eq_true rfl)
  · refine lv_aload_n hx hb dX0_leadOf_9 rfl (lv_at hl 0 rfl) ?_
    refine va_get (D := D) (ci := 0) (v := .ref (q 5)) (C := RX0) (T := TX0) (N := 7) hx hb hts iwX0_leadOf_X0 hown hK hP 0 rfl rfl 4 (by decide) (hts (Cond.fieldLink RX0 26 "ShareDisk$Clients" "waiting" "[I") mwX0_leadOf_0) (fun _ h9 => h9) rfl dX0_leadOf_10 ?_
    refine lv_iload_n hx hb dX0_leadOf_13 rfl (lv_at hl 2 rfl) ?_
    refine aI hx hb hK hP 5 1 rfl rfl (ix8 hb8) dX0_leadOf_14 ?_
    refine lv_if_le (tgt := 29) hx hb dX0_leadOf_15 (by decide) (fun c2 => ?_) (fun c2 => ?_)
    · refine lv_lconst (v := 0) hx hb dX0_leadOf_29 rfl ?_
      exact retL hc dX0_leadOf_30 hK hP hD hS (⟨by simp [c1, c2], rfl⟩) (Nat.le_of_ble_eq_true rfl) (Nat.le_of_ble_eq_true rfl)
    · refine lv_aload_n hx hb dX0_leadOf_18 rfl (lv_at hl 0 rfl) ?_
      refine va_get (D := D) (ci := 0) (v := .ref (q 7)) (C := RX0) (T := TX0) (N := 7) hx hb hts iwX0_leadOf_X0 hown hK hP 0 rfl rfl 6 (by decide) (hts (Cond.fieldLink RX0 34 "ShareDisk$Clients" "lead" "[[J") mwX0_leadOf_1) (fun _ h9 => h9) rfl dX0_leadOf_19 ?_
      refine lv_iload_n hx hb dX0_leadOf_22 rfl (lv_at hl 1 rfl) ?_
      refine aG hx hb hK hP 7 3 (r := q (8 + a)) rfl rfl (ix8 ha) rfl dX0_leadOf_23 ?_
      refine lv_iload_n hx hb dX0_leadOf_24 rfl (lv_at hl 2 rfl) ?_
      refine aJ hx hb hK hP (8 + a) 2 (ClW_row ha) rfl (ix8 hb8) dX0_leadOf_25 ?_
      refine lv_goto (tgt := 30) hx hb dX0_leadOf_26 (by decide) ?_
      exact retL hc dX0_leadOf_30 hK hP hD hS (⟨by simp [c1, c2], rfl⟩) (Nat.le_of_ble_eq_true rfl) (Nat.le_of_ble_eq_true rfl)
theorem mwX0_nextInTurn_0 : Cond.fieldLink RX0 26 "ShareDisk$Clients" "waiting" "[I" ∈ wsX0_nextInTurn := by decide +kernel
theorem mwX0_nextInTurn_1 : Cond.fieldLink RX0 22 "ShareDisk$Clients" "tag" "[J" ∈ wsX0_nextInTurn := by decide +kernel
theorem iwX0_nextInTurn_X0 : ∀ w ∈ wsX00, w ∈ wsX0_nextInTurn := by decide +kernel
set_option maxHeartbeats 4000000 in
set_option maxRecDepth 100000 in
theorem kX0_nextInTurn (l : Launch) (D : va_G) (k : Nat → ClassId) (q : Nat → Nat) (zz : Nat) (th co bu : Nat → Int32) (tg : Nat → Int64) (wa se : Nat → Int32) (ld : Nat → Nat → Int64) : MI l yX0_nextInTurn wsX0_nextInTurn ({ frames := 0, cells := 0, slots := 0, locals := 0 } : Room) D k (ClW q k th co bu tg wa se ld) zz [.ref (q 0)] (fun r9 w9 => r9 = (oI (nit wa tg 8)) ∧ w9 = ClW q k th co bu tg wa se ld) 0 0 := by
  refine bodyOf (Qc := fun A => QI D k (fun r9 w9 => r9 = (oI (nit wa tg 8)) ∧ w9 = ClW q k th co bu tg wa se ld) A) (cc := cX0_nextInTurn) (maxL := 3) (ret := (some .int)) (by decide) rfl (Nat.le_of_ble_eq_true rfl) ?_
  intro p e s m below meth c A ls hc hA hK hP hD hS hl
  obtain ⟨hx, hb, hml, hr, hts, hown, hlocks, hin⟩ := (show _ from hc)
  have hl : lv_has ls 3 [(0, .ref (q 0))] := hl
  refine lv_iconst (v := (-1)) hx hb dX0_nextInTurn_0 (by decide) ?_
  refine lv_istore_n (lv' := [(1, .int (-1)), (0, .ref (q 0))]) hx hb dX0_nextInTurn_1 rfl hl (by decide) rfl (fun ls hl => ?_)
  refine lv_iconst (v := nI 0) hx hb dX0_nextInTurn_2 (by decide) ?_
  refine lv_istore_n (lv' := [(2, .int (nI 0)), (1, .int (-1)), (0, .ref (q 0))]) hx hb dX0_nextInTurn_3 rfl hl (by decide) rfl (fun ls hl => ?_)
  have loop4 : ∀ (n : Nat) (i : Nat) (bt : Option Nat), (i ≤ 8) → (∀ j, bt = some j → j < 8) → (bt = nit wa tg i) → 8 - i < n → ∀ (H : Heap) (locs : List Loc) (ls : Array Slot), va_P D vwCl (ClW q k th co bu tg wa se ld) H → va_D A (ClW q k th co bu tg wa se ld) → va_S A s.heap H locs → lv_has ls 3 [(0, .ref (q 0)), (1, .int (oI bt)), (2, .int (nI i))] → W p l e ({ frames := 0, cells := 0, slots := 0, locals := 0 } : Room) s m [.ref (q 0)].toArray below meth c H locs 0 0 (MQ below (QI D k (fun r9 w9 => r9 = (oI (nit wa tg 8)) ∧ w9 = ClW q k th co bu tg wa se ld) A) [.ref (q 0)].toArray s 0 0 A) (F0 m 4 ls []) := by
    intro n
    induction n with
    | zero => intro i bt hi hj hbt hn9; exact absurd hn9 (Nat.not_lt_zero _)
    | succ n ih =>
      intro i bt hi hj hbt hn9 H locs ls hP hD hS hl
      refine lv_iload_n hx hb dX0_nextInTurn_4 rfl (lv_at hl 2 rfl) ?_
      refine lv_bipush (v := nI 8) hx hb dX0_nextInTurn_5 (by decide) ?_
      refine lv_icmp_ge (tgt := 48) hx hb dX0_nextInTurn_7 (by decide) (fun c1 => ?_) (fun c1 => ?_)
      · have hi8 : i = 8 := lp_ge (by decide) hi c1
        refine lv_iload_n hx hb dX0_nextInTurn_48 rfl (lv_at hl 1 rfl) ?_
        exact retI hc dX0_nextInTurn_49 hK hP hD hS (⟨by rw [hbt, hi8], rfl⟩) (Nat.le_of_ble_eq_true rfl) (Nat.le_of_ble_eq_true rfl)
      · have hi8 : i < 8 := lp_lt (by decide) hi c1
        refine lv_aload_n hx hb dX0_nextInTurn_10 rfl (lv_at hl 0 rfl) ?_
        refine va_get (D := D) (ci := 0) (v := .ref (q 5)) (C := RX0) (T := TX0) (N := 7) hx hb hts iwX0_nextInTurn_X0 hown hK hP 0 rfl rfl 4 (by decide) (hts (Cond.fieldLink RX0 26 "ShareDisk$Clients" "waiting" "[I") mwX0_nextInTurn_0) (fun _ h9 => h9) rfl dX0_nextInTurn_11 ?_
        refine lv_iload_n hx hb dX0_nextInTurn_14 rfl (lv_at hl 2 rfl) ?_
        refine aI hx hb hK hP 5 1 rfl rfl (ix8 hi8) dX0_nextInTurn_15 ?_
        refine lv_if_le (tgt := 42) hx hb dX0_nextInTurn_16 (by decide) (fun c2 => ?_) (fun c2 => ?_)
        · refine lv_iinc (v := nI (i + 1)) (lv' := [(2, .int (nI (i + 1))), (0, .ref (q 0)), (1, .int (oI bt))]) hx hb dX0_nextInTurn_42 hl (k := 2) rfl (by rw [show Int32.ofInt 1 = nI 1 by decide, nI_add]) (by decide) rfl (fun ls hl => ?_)
          refine lv_goto (tgt := 4) hx hb dX0_nextInTurn_45 (by decide) ?_
          exact ih (i + 1) bt (by omega) hj (by rw [hbt]; simp [nit, c2]) (by omega) _ _ _ hP hD hS (lv_sub hl [1, 2, 0] rfl)
        · rcases bt with _ | j
          · have hl : lv_has ls 3 [(0, .ref (q 0)), (1, .int (-1)), (2, .int (nI i))] := hl
            refine lv_iload_n hx hb dX0_nextInTurn_19 rfl (lv_at hl 1 rfl) ?_
            refine lv_iconst (v := (-1)) hx hb dX0_nextInTurn_20 (by decide) ?_
            refine lv_icmp_eq (tgt := 40) hx hb dX0_nextInTurn_21 (by decide) (fun c3 => ?_) (fun c3 => False.elim (c3 rfl))
            refine lv_iload_n hx hb dX0_nextInTurn_40 rfl (lv_at hl 2 rfl) ?_
            refine lv_istore_n (lv' := [(1, .int (nI i)), (0, .ref (q 0)), (2, .int (nI i))]) hx hb dX0_nextInTurn_41 rfl hl (by decide) rfl (fun ls hl => ?_)
            refine lv_iinc (v := nI (i + 1)) (lv' := [(2, .int (nI (i + 1))), (1, .int (nI i)), (0, .ref (q 0))]) hx hb dX0_nextInTurn_42 hl (k := 2) rfl (by rw [show Int32.ofInt 1 = nI 1 by decide, nI_add]) (by decide) rfl (fun ls hl => ?_)
            refine lv_goto (tgt := 4) hx hb dX0_nextInTurn_45 (by decide) ?_
            exact ih (i + 1) (some i) (by omega) (fun j h => by cases h; exact hi8) (by simp [nit, ← hbt, c2]) (by omega) _ _ _ hP hD hS (lv_sub hl [2, 1, 0] rfl)
          · have hl : lv_has ls 3 [(0, .ref (q 0)), (1, .int (nI j)), (2, .int (nI i))] := hl
            refine lv_iload_n hx hb dX0_nextInTurn_19 rfl (lv_at hl 1 rfl) ?_
            refine lv_iconst (v := (-1)) hx hb dX0_nextInTurn_20 (by decide) ?_
            refine lv_icmp_eq (tgt := 40) hx hb dX0_nextInTurn_21 (by decide) (fun c4 => False.elim (nI_nm1 _ (hj j rfl) c4)) (fun c4 => ?_)
            refine lv_aload_n hx hb dX0_nextInTurn_24 rfl (lv_at hl 0 rfl) ?_
            refine va_get (D := D) (ci := 0) (v := .ref (q 4)) (C := RX0) (T := TX0) (N := 7) hx hb hts iwX0_nextInTurn_X0 hown hK hP 0 rfl rfl 3 (by decide) (hts (Cond.fieldLink RX0 22 "ShareDisk$Clients" "tag" "[J") mwX0_nextInTurn_1) (fun _ h9 => h9) rfl dX0_nextInTurn_25 ?_
            refine lv_iload_n hx hb dX0_nextInTurn_28 rfl (lv_at hl 2 rfl) ?_
            refine aJ hx hb hK hP 4 2 rfl rfl (ix8 hi8) dX0_nextInTurn_29 ?_
            refine lv_aload_n hx hb dX0_nextInTurn_30 rfl (lv_at hl 0 rfl) ?_
            refine va_get (D := D) (ci := 0) (v := .ref (q 4)) (C := RX0) (T := TX0) (N := 7) hx hb hts iwX0_nextInTurn_X0 hown hK hP 0 rfl rfl 3 (by decide) (hts (Cond.fieldLink RX0 22 "ShareDisk$Clients" "tag" "[J") mwX0_nextInTurn_1) (fun _ h9 => h9) rfl dX0_nextInTurn_31 ?_
            refine lv_iload_n hx hb dX0_nextInTurn_34 rfl (lv_at hl 1 rfl) ?_
            refine aJ hx hb hK hP 4 2 rfl rfl (ix8 (hj j rfl)) dX0_nextInTurn_35 ?_
            refine W.lcmp hx hb dX0_nextInTurn_36 ?_
            refine lv_if_ge (tgt := 42) hx hb dX0_nextInTurn_37 (by decide) (fun c5 => ?_) (fun c5 => ?_)
            · rw [lg_cmp_ge] at c5
              refine lv_iinc (v := nI (i + 1)) (lv' := [(2, .int (nI (i + 1))), (0, .ref (q 0)), (1, .int (nI j))]) hx hb dX0_nextInTurn_42 hl (k := 2) rfl (by rw [show Int32.ofInt 1 = nI 1 by decide, nI_add]) (by decide) rfl (fun ls hl => ?_)
              refine lv_goto (tgt := 4) hx hb dX0_nextInTurn_45 (by decide) ?_
              exact ih (i + 1) (some j) (by omega) hj (by simp [nit, ← hbt, c2, c5]) (by omega) _ _ _ hP hD hS (lv_sub hl [1, 2, 0] rfl)
            · rw [lg_cmp_ge] at c5
              refine lv_iload_n hx hb dX0_nextInTurn_40 rfl (lv_at hl 2 rfl) ?_
              refine lv_istore_n (lv' := [(1, .int (nI i)), (0, .ref (q 0)), (2, .int (nI i))]) hx hb dX0_nextInTurn_41 rfl hl (by decide) rfl (fun ls hl => ?_)
              refine lv_iinc (v := nI (i + 1)) (lv' := [(2, .int (nI (i + 1))), (1, .int (nI i)), (0, .ref (q 0))]) hx hb dX0_nextInTurn_42 hl (k := 2) rfl (by rw [show Int32.ofInt 1 = nI 1 by decide, nI_add]) (by decide) rfl (fun ls hl => ?_)
              refine lv_goto (tgt := 4) hx hb dX0_nextInTurn_45 (by decide) ?_
              exact ih (i + 1) (some i) (by omega) (fun j h => by cases h; exact hi8) (by simp [nit, ← hbt, c2, c5]) (by omega) _ _ _ hP hD hS (lv_sub hl [2, 1, 0] rfl)
  exact loop4 _ 0 none (by omega) (fun j h => by cases h) rfl (Nat.lt_succ_self _) s.heap _ _ hP hD hS (lv_sub hl [2, 1, 0] rfl)
theorem mwX0_greatestTag_0 : Cond.fieldLink RX0 9 "ShareDisk$Clients" "there" "[Z" ∈ wsX0_greatestTag := by decide +kernel
theorem mwX0_greatestTag_1 : Cond.fieldLink RX0 22 "ShareDisk$Clients" "tag" "[J" ∈ wsX0_greatestTag := by decide +kernel
theorem mwX0_greatestTag_2 : Cond.methodLink RX0 37 Lib.MathLoose.max_long.x ∈ wsX0_greatestTag := by decide +kernel
theorem mwX0_greatestTag_3 : Cond.static Lib.MathLoose.max_long.x ∈ wsX0_greatestTag := by decide +kernel
theorem mwX0_greatestTag_4 : Cond.initialized "java/lang/Math" ∈ wsX0_greatestTag := by decide +kernel
theorem mwX0_greatestTag_5 : Cond.code Lib.MathLoose.max_long.x Lib.MathLoose.max_long.code 4 (some .long) ∈ wsX0_greatestTag := by decide +kernel
theorem iwX0_greatestTag_X0 : ∀ w ∈ wsX00, w ∈ wsX0_greatestTag := by decide +kernel
set_option maxHeartbeats 4000000 in
set_option maxRecDepth 100000 in
theorem kX0_greatestTag (l : Launch) (D : va_G) (k : Nat → ClassId) (q : Nat → Nat) (zz : Nat) (th co bu : Nat → Int32) (tg : Nat → Int64) (wa se : Nat → Int32) (ld : Nat → Nat → Int64) (x : Int64) : ML l yX0_greatestTag wsX0_greatestTag ({ frames := 1, cells := 0, slots := 0, locals := 23 } : Room) D k (ClW q k th co bu tg wa se ld) zz [.ref (q 0), .long x] (fun r9 w9 => r9 = (gtF th tg x 8) ∧ w9 = ClW q k th co bu tg wa se ld) 0 0 := by
  refine bodyOf (Qc := fun A => QL D k (fun r9 w9 => r9 = (gtF th tg x 8) ∧ w9 = ClW q k th co bu tg wa se ld) A) (cc := cX0_greatestTag) (maxL := 6) (ret := (some .long)) (by decide) rfl (Nat.le_of_ble_eq_true rfl) ?_
  intro p e s m below meth c A ls hc hA hK hP hD hS hl
  obtain ⟨hx, hb, hml, hr, hts, hown, hlocks, hin⟩ := (show _ from hc)
  have hl : lv_has ls 6 [(0, .ref (q 0)), (1, .long x)] := hl
  refine lv_lload_n hx hb dX0_greatestTag_0 rfl (lv_at hl 1 rfl) ?_
  refine lv_lstore_n (lv' := [(3, .long x), (0, .ref (q 0)), (1, .long x)]) hx hb dX0_greatestTag_1 rfl hl (by decide) rfl (fun ls hl => ?_)
  refine lv_iconst (v := nI 0) hx hb dX0_greatestTag_2 (by decide) ?_
  refine lv_istore (lv' := [(5, .int (nI 0)), (3, .long x), (0, .ref (q 0)), (1, .long x)]) hx hb dX0_greatestTag_3 hl (by decide) rfl (fun ls hl => ?_)
  have loop5 : ∀ (n : Nat) (i : Nat) (g : Int64), (i ≤ 8) → (g = gtF th tg x i) → 8 - i < n → ∀ (H : Heap) (locs : List Loc) (ls : Array Slot), va_P D vwCl (ClW q k th co bu tg wa se ld) H → va_D A (ClW q k th co bu tg wa se ld) → va_S A s.heap H locs → lv_has ls 6 [(0, .ref (q 0)), (1, .long x), (3, .long g), (5, .int (nI i))] → W p l e ({ frames := 1, cells := 0, slots := 0, locals := 23 } : Room) s m [.ref (q 0), .long x].toArray below meth c H locs 0 0 (MQ below (QL D k (fun r9 w9 => r9 = (gtF th tg x 8) ∧ w9 = ClW q k th co bu tg wa se ld) A) [.ref (q 0), .long x].toArray s 0 0 A) (F0 m 5 ls []) := by
    intro n
    induction n with
    | zero => intro i g hi hg hn9; exact absurd hn9 (Nat.not_lt_zero _)
    | succ n ih =>
      intro i g hi hg hn9 H locs ls hP hD hS hl
      refine lv_iload hx hb dX0_greatestTag_5 (lv_at hl 3 rfl) ?_
      refine lv_bipush (v := nI 8) hx hb dX0_greatestTag_7 (by decide) ?_
      refine lv_icmp_ge (tgt := 40) hx hb dX0_greatestTag_9 (by decide) (fun c1 => ?_) (fun c1 => ?_)
      · have hi8 : i = 8 := lp_ge (by decide) hi c1
        refine lv_lload_n hx hb dX0_greatestTag_40 rfl (lv_at hl 2 rfl) ?_
        exact retL hc dX0_greatestTag_41 hK hP hD hS (⟨by rw [hg, hi8], rfl⟩) (Nat.le_of_ble_eq_true rfl) (Nat.le_of_ble_eq_true rfl)
      · have hi8 : i < 8 := lp_lt (by decide) hi c1
        refine lv_aload_n hx hb dX0_greatestTag_12 rfl (lv_at hl 0 rfl) ?_
        refine va_get (D := D) (ci := 0) (v := .ref (q 1)) (C := RX0) (T := TX0) (N := 7) hx hb hts iwX0_greatestTag_X0 hown hK hP 0 rfl rfl 0 (by decide) (hts (Cond.fieldLink RX0 9 "ShareDisk$Clients" "there" "[Z") mwX0_greatestTag_0) (fun _ h9 => h9) rfl dX0_greatestTag_13 ?_
        refine lv_iload hx hb dX0_greatestTag_16 (lv_at hl 3 rfl) ?_
        refine aZ hx hb hK hP 1 0 rfl rfl (ix8 hi8) dX0_greatestTag_18 ?_
        refine lv_if_eq (tgt := 34) hx hb dX0_greatestTag_19 (by decide) (fun c2 => ?_) (fun c2 => ?_)
        · refine lv_iinc (v := nI (i + 1)) (lv' := [(5, .int (nI (i + 1))), (0, .ref (q 0)), (1, .long x), (3, .long g)]) hx hb dX0_greatestTag_34 hl (k := 3) rfl (by rw [show Int32.ofInt 1 = nI 1 by decide, nI_add]) (by decide) rfl (fun ls hl => ?_)
          refine lv_goto (tgt := 5) hx hb dX0_greatestTag_37 (by decide) ?_
          exact ih (i + 1) (g) (by omega) (by simp [gtF, hg, c2]) (by omega) _ _ _ hP hD hS (lv_sub hl [1, 2, 3, 0] rfl)
        · refine lv_lload_n hx hb dX0_greatestTag_22 rfl (lv_at hl 2 rfl) ?_
          refine lv_aload_n hx hb dX0_greatestTag_23 rfl (lv_at hl 0 rfl) ?_
          refine va_get (D := D) (ci := 0) (v := .ref (q 4)) (C := RX0) (T := TX0) (N := 7) hx hb hts iwX0_greatestTag_X0 hown hK hP 0 rfl rfl 3 (by decide) (hts (Cond.fieldLink RX0 22 "ShareDisk$Clients" "tag" "[J") mwX0_greatestTag_1) (fun _ h9 => h9) rfl dX0_greatestTag_24 ?_
          refine lv_iload hx hb dX0_greatestTag_27 (lv_at hl 3 rfl) ?_
          refine aJ hx hb hK hP 4 2 rfl rfl (ix8 hi8) dX0_greatestTag_29 ?_
          refine va_mmax_long hx hb (hml.trans hl.1.symm) hown (hts (Cond.methodLink RX0 37 Lib.MathLoose.max_long.x) mwX0_greatestTag_2) (hts (Cond.static Lib.MathLoose.max_long.x) mwX0_greatestTag_3) (hts (Cond.initialized "java/lang/Math") mwX0_greatestTag_4) (hts (Cond.code Lib.MathLoose.max_long.x Lib.MathLoose.max_long.code 4 (some .long)) mwX0_greatestTag_5) (Nat.le_of_ble_eq_true rfl) (Nat.le_of_ble_eq_true rfl) (Nat.le_of_ble_eq_true rfl) (Nat.le_of_ble_eq_true rfl) dX0_greatestTag_30 ?_
          refine lv_lstore_n (lv' := [(3, .long (mxL g (tg i))), (0, .ref (q 0)), (1, .long x), (5, .int (nI i))]) hx hb dX0_greatestTag_33 rfl hl (by decide) rfl (fun ls hl => ?_)
          refine lv_iinc (v := nI (i + 1)) (lv' := [(5, .int (nI (i + 1))), (3, .long (mxL g (tg i))), (0, .ref (q 0)), (1, .long x)]) hx hb dX0_greatestTag_34 hl (k := 3) rfl (by rw [show Int32.ofInt 1 = nI 1 by decide, nI_add]) (by decide) rfl (fun ls hl => ?_)
          refine lv_goto (tgt := 5) hx hb dX0_greatestTag_37 (by decide) ?_
          exact ih (i + 1) (mxL g (tg i)) (by omega) (by simp [gtF, hg, c2]) (by omega) _ _ _ hP hD hS (lv_sub hl [2, 3, 1, 0] rfl)
  exact loop5 _ 0 x (by omega) rfl (Nat.lt_succ_self _) s.heap _ _ hP hD hS (lv_sub hl [2, 3, 1, 0] rfl)
