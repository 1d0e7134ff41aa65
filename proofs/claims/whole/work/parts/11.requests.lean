theorem mwX1_isFull_0 : Cond.fieldLink RX1 41 "ShareDisk$Requests" "tickets" "I" ∈ wsX1_isFull := by decide +kernel
theorem iwX1_isFull_X1 : ∀ w ∈ wsX10, w ∈ wsX1_isFull := by decide +kernel
set_option maxHeartbeats 4000000 in
set_option maxRecDepth 100000 in
theorem kX1_isFull (l : Launch) (D : va_G) (k : Nat → ClassId) (q : Nat → Nat) (zz : Nat) (ow wr fi sz : Nat → Int32) (dl : Nat → Int64) (wt bl sh so : Nat → Int32) (tn sn un : Nat) (htn : tn ≤ 500) : MI l yX1_isFull wsX1_isFull ({ frames := 0, cells := 0, slots := 0, locals := 0 } : Room) D k (RqW q k ow wr fi sz dl wt bl sh so tn sn un) zz [.ref (q 0)] (fun r9 w9 => r9 = (bI (500 ≤ tn)) ∧ w9 = RqW q k ow wr fi sz dl wt bl sh so tn sn un) 0 0 := by
  refine bodyOf (Qc := fun A => QI D k (fun r9 w9 => r9 = (bI (500 ≤ tn)) ∧ w9 = RqW q k ow wr fi sz dl wt bl sh so tn sn un) A) (cc := cX1_isFull) (maxL := 1) (ret := (some .boolean)) (by decide) rfl (Nat.le_of_ble_eq_true rfl) ?_
  intro p e s m below meth c A ls hc hA hK hP hD hS hl
  obtain ⟨hx, hb, hml, hr, hts, hown, hlocks, hin⟩ := (show _ from hc)
  have hl : lv_has ls 1 [(0, .ref (q 0))] := hl
  refine lv_aload_n hx hb dX1_isFull_0 rfl (lv_at hl 0 rfl) ?_
  refine va_get (D := D) (ci := 1) (v := .int (nI tn)) (C := RX1) (T := TX1) (N := 12) hx hb hts iwX1_isFull_X1 hown hK hP 0 rfl rfl 9 (by decide) (hts (Cond.fieldLink RX1 41 "ShareDisk$Requests" "tickets" "I") mwX1_isFull_0) (fun _ h9 => h9) rfl dX1_isFull_1 ?_
  refine lv_sipush (v := nI 500) hx hb dX1_isFull_4 (by decide) ?_
  refine lv_icmp_lt (tgt := 14) hx hb dX1_isFull_7 (by decide) (fun c1 => ?_) (fun c1 => ?_)
  · refine lv_iconst (v := nI 0) hx hb dX1_isFull_14 (by decide) ?_
    exact retZ hc dX1_isFull_15 hK hP hD hS (Or.inl rfl) (⟨bI_f (by have h9 := (nI_ltI (by omega) (by decide)).mp c1; omega), rfl⟩) (Nat.le_of_ble_eq_true rfl) (Nat.le_of_ble_eq_true rfl)
  · refine lv_iconst (v := nI 1) hx hb dX1_isFull_10 (by decide) ?_
    refine lv_goto (tgt := 15) hx hb dX1_isFull_11 (by decide) ?_
    exact retZ hc dX1_isFull_15 hK hP hD hS (Or.inr rfl) (⟨bI_t (by have h9 := mt (nI_ltI (by omega) (by decide)).mpr c1; omega), rfl⟩) (Nat.le_of_ble_eq_true rfl) (Nat.le_of_ble_eq_true rfl)
theorem mwX1_isTicket_0 : Cond.fieldLink RX1 41 "ShareDisk$Requests" "tickets" "I" ∈ wsX1_isTicket := by decide +kernel
theorem iwX1_isTicket_X1 : ∀ w ∈ wsX10, w ∈ wsX1_isTicket := by decide +kernel
set_option maxHeartbeats 4000000 in
set_option maxRecDepth 100000 in
theorem kX1_isTicket (l : Launch) (D : va_G) (k : Nat → ClassId) (q : Nat → Nat) (zz : Nat) (ow wr fi sz : Nat → Int32) (dl : Nat → Int64) (wt bl sh so : Nat → Int32) (tn sn un : Nat) (x : Int32) : MI l yX1_isTicket wsX1_isTicket ({ frames := 0, cells := 0, slots := 0, locals := 0 } : Room) D k (RqW q k ow wr fi sz dl wt bl sh so tn sn un) zz [.ref (q 0), .int x] (fun r9 w9 => r9 = (bI (¬ x < 0 ∧ ¬ nI tn ≤ x)) ∧ w9 = RqW q k ow wr fi sz dl wt bl sh so tn sn un) 0 0 := by
  refine bodyOf (Qc := fun A => QI D k (fun r9 w9 => r9 = (bI (¬ x < 0 ∧ ¬ nI tn ≤ x)) ∧ w9 = RqW q k ow wr fi sz dl wt bl sh so tn sn un) A) (cc := cX1_isTicket) (maxL := 2) (ret := (some .boolean)) (by decide) rfl (Nat.le_of_ble_eq_true rfl) ?_
  intro p e s m below meth c A ls hc hA hK hP hD hS hl
  obtain ⟨hx, hb, hml, hr, hts, hown, hlocks, hin⟩ := (show _ from hc)
  have hl : lv_has ls 2 [(0, .ref (q 0)), (1, .int x)] := hl
  refine lv_iload_n hx hb dX1_isTicket_0 rfl (lv_at hl 1 rfl) ?_
  refine lv_if_lt (tgt := 16) hx hb dX1_isTicket_1 (by decide) (fun c1 => ?_) (fun c1 => ?_)
  · refine lv_iconst (v := nI 0) hx hb dX1_isTicket_16 (by decide) ?_
    exact retZ hc dX1_isTicket_17 hK hP hD hS (Or.inl rfl) (⟨bI_f (by simp [c1]), rfl⟩) (Nat.le_of_ble_eq_true rfl) (Nat.le_of_ble_eq_true rfl)
  · refine lv_iload_n hx hb dX1_isTicket_4 rfl (lv_at hl 1 rfl) ?_
    refine lv_aload_n hx hb dX1_isTicket_5 rfl (lv_at hl 0 rfl) ?_
    refine va_get (D := D) (ci := 1) (v := .int (nI tn)) (C := RX1) (T := TX1) (N := 12) hx hb hts iwX1_isTicket_X1 hown hK hP 0 rfl rfl 9 (by decide) (hts (Cond.fieldLink RX1 41 "ShareDisk$Requests" "tickets" "I") mwX1_isTicket_0) (fun _ h9 => h9) rfl dX1_isTicket_6 ?_
    refine lv_icmp_ge (tgt := 16) hx hb dX1_isTicket_9 (by decide) (fun c2 => ?_) (fun c2 => ?_)
    · refine lv_iconst (v := nI 0) hx hb dX1_isTicket_16 (by decide) ?_
      exact retZ hc dX1_isTicket_17 hK hP hD hS (Or.inl rfl) (⟨bI_f (by simp [c2]), rfl⟩) (Nat.le_of_ble_eq_true rfl) (Nat.le_of_ble_eq_true rfl)
    · refine lv_iconst (v := nI 1) hx hb dX1_isTicket_12 (by decide) ?_
      refine lv_goto (tgt := 17) hx hb dX1_isTicket_13 (by decide) ?_
      exact retZ hc dX1_isTicket_17 hK hP hD hS (Or.inr rfl) (⟨bI_t ⟨c1, c2⟩, rfl⟩) (Nat.le_of_ble_eq_true rfl) (Nat.le_of_ble_eq_true rfl)
theorem mwX1_ownerOf_0 : Cond.fieldLink RX1 9 "ShareDisk$Requests" "owner" "[I" ∈ wsX1_ownerOf := by decide +kernel
theorem iwX1_ownerOf_X1 : ∀ w ∈ wsX10, w ∈ wsX1_ownerOf := by decide +kernel
set_option maxHeartbeats 4000000 in
set_option maxRecDepth 100000 in
theorem kX1_ownerOf (l : Launch) (D : va_G) (k : Nat → ClassId) (q : Nat → Nat) (zz : Nat) (ow wr fi sz : Nat → Int32) (dl : Nat → Int64) (wt bl sh so : Nat → Int32) (tn sn un : Nat) (t : Nat) (ht : t < 500) : MI l yX1_ownerOf wsX1_ownerOf ({ frames := 0, cells := 0, slots := 0, locals := 0 } : Room) D k (RqW q k ow wr fi sz dl wt bl sh so tn sn un) zz [.ref (q 0), .int (nI t)] (fun r9 w9 => r9 = (ow t) ∧ w9 = RqW q k ow wr fi sz dl wt bl sh so tn sn un) 0 0 := by
  refine bodyOf (Qc := fun A => QI D k (fun r9 w9 => r9 = (ow t) ∧ w9 = RqW q k ow wr fi sz dl wt bl sh so tn sn un) A) (cc := cX1_ownerOf) (maxL := 2) (ret := (some .int)) (by decide) rfl (Nat.le_of_ble_eq_true rfl) ?_
  intro p e s m below meth c A ls hc hA hK hP hD hS hl
  obtain ⟨hx, hb, hml, hr, hts, hown, hlocks, hin⟩ := (show _ from hc)
  have hl : lv_has ls 2 [(0, .ref (q 0)), (1, .int (nI t))] := hl
  refine lv_aload_n hx hb dX1_ownerOf_0 rfl (lv_at hl 0 rfl) ?_
  refine va_get (D := D) (ci := 1) (v := .ref (q 1)) (C := RX1) (T := TX1) (N := 12) hx hb hts iwX1_ownerOf_X1 hown hK hP 0 rfl rfl 0 (by decide) (hts (Cond.fieldLink RX1 9 "ShareDisk$Requests" "owner" "[I") mwX1_ownerOf_0) (fun _ h9 => h9) rfl dX1_ownerOf_1 ?_
  refine lv_iload_n hx hb dX1_ownerOf_4 rfl (lv_at hl 1 rfl) ?_
  refine aI hx hb hK hP 1 1 rfl rfl (ix5 ht) dX1_ownerOf_5 ?_
  exact retI hc dX1_ownerOf_6 hK hP hD hS (⟨rfl, rfl⟩) (Nat.le_of_ble_eq_true rfl) (Nat.le_of_ble_eq_true rfl)
theorem mwX1_firstOf_0 : Cond.fieldLink RX1 19 "ShareDisk$Requests" "first" "[I" ∈ wsX1_firstOf := by decide +kernel
theorem iwX1_firstOf_X1 : ∀ w ∈ wsX10, w ∈ wsX1_firstOf := by decide +kernel
set_option maxHeartbeats 4000000 in
set_option maxRecDepth 100000 in
theorem kX1_firstOf (l : Launch) (D : va_G) (k : Nat → ClassId) (q : Nat → Nat) (zz : Nat) (ow wr fi sz : Nat → Int32) (dl : Nat → Int64) (wt bl sh so : Nat → Int32) (tn sn un : Nat) (t : Nat) (ht : t < 500) : MI l yX1_firstOf wsX1_firstOf ({ frames := 0, cells := 0, slots := 0, locals := 0 } : Room) D k (RqW q k ow wr fi sz dl wt bl sh so tn sn un) zz [.ref (q 0), .int (nI t)] (fun r9 w9 => r9 = (fi t) ∧ w9 = RqW q k ow wr fi sz dl wt bl sh so tn sn un) 0 0 := by
  refine bodyOf (Qc := fun A => QI D k (fun r9 w9 => r9 = (fi t) ∧ w9 = RqW q k ow wr fi sz dl wt bl sh so tn sn un) A) (cc := cX1_firstOf) (maxL := 2) (ret := (some .int)) (by decide) rfl (Nat.le_of_ble_eq_true rfl) ?_
  intro p e s m below meth c A ls hc hA hK hP hD hS hl
  obtain ⟨hx, hb, hml, hr, hts, hown, hlocks, hin⟩ := (show _ from hc)
  have hl : lv_has ls 2 [(0, .ref (q 0)), (1, .int (nI t))] := hl
  refine lv_aload_n hx hb dX1_firstOf_0 rfl (lv_at hl 0 rfl) ?_
  refine va_get (D := D) (ci := 1) (v := .ref (q 3)) (C := RX1) (T := TX1) (N := 12) hx hb hts iwX1_firstOf_X1 hown hK hP 0 rfl rfl 2 (by decide) (hts (Cond.fieldLink RX1 19 "ShareDisk$Requests" "first" "[I") mwX1_firstOf_0) (fun _ h9 => h9) rfl dX1_firstOf_1 ?_
  refine lv_iload_n hx hb dX1_firstOf_4 rfl (lv_at hl 1 rfl) ?_
  refine aI hx hb hK hP 3 1 rfl rfl (ix5 ht) dX1_firstOf_5 ?_
  exact retI hc dX1_firstOf_6 hK hP hD hS (⟨rfl, rfl⟩) (Nat.le_of_ble_eq_true rfl) (Nat.le_of_ble_eq_true rfl)
theorem mwX1_sizeOf_0 : Cond.fieldLink RX1 22 "ShareDisk$Requests" "size" "[I" ∈ wsX1_sizeOf := by decide +kernel
theorem iwX1_sizeOf_X1 : ∀ w ∈ wsX10, w ∈ wsX1_sizeOf := by decide +kernel
set_option maxHeartbeats 4000000 in
set_option maxRecDepth 100000 in
theorem kX1_sizeOf (l : Launch) (D : va_G) (k : Nat → ClassId) (q : Nat → Nat) (zz : Nat) (ow wr fi sz : Nat → Int32) (dl : Nat → Int64) (wt bl sh so : Nat → Int32) (tn sn un : Nat) (t : Nat) (ht : t < 500) : MI l yX1_sizeOf wsX1_sizeOf ({ frames := 0, cells := 0, slots := 0, locals := 0 } : Room) D k (RqW q k ow wr fi sz dl wt bl sh so tn sn un) zz [.ref (q 0), .int (nI t)] (fun r9 w9 => r9 = (sz t) ∧ w9 = RqW q k ow wr fi sz dl wt bl sh so tn sn un) 0 0 := by
  refine bodyOf (Qc := fun A => QI D k (fun r9 w9 => r9 = (sz t) ∧ w9 = RqW q k ow wr fi sz dl wt bl sh so tn sn un) A) (cc := cX1_sizeOf) (maxL := 2) (ret := (some .int)) (by decide) rfl (Nat.le_of_ble_eq_true rfl) ?_
  intro p e s m below meth c A ls hc hA hK hP hD hS hl
  obtain ⟨hx, hb, hml, hr, hts, hown, hlocks, hin⟩ := (show _ from hc)
  have hl : lv_has ls 2 [(0, .ref (q 0)), (1, .int (nI t))] := hl
  refine lv_aload_n hx hb dX1_sizeOf_0 rfl (lv_at hl 0 rfl) ?_
  refine va_get (D := D) (ci := 1) (v := .ref (q 4)) (C := RX1) (T := TX1) (N := 12) hx hb hts iwX1_sizeOf_X1 hown hK hP 0 rfl rfl 3 (by decide) (hts (Cond.fieldLink RX1 22 "ShareDisk$Requests" "size" "[I") mwX1_sizeOf_0) (fun _ h9 => h9) rfl dX1_sizeOf_1 ?_
  refine lv_iload_n hx hb dX1_sizeOf_4 rfl (lv_at hl 1 rfl) ?_
  refine aI hx hb hK hP 4 1 rfl rfl (ix5 ht) dX1_sizeOf_5 ?_
  exact retI hc dX1_sizeOf_6 hK hP hD hS (⟨rfl, rfl⟩) (Nat.le_of_ble_eq_true rfl) (Nat.le_of_ble_eq_true rfl)
theorem mwX1_waiting_0 : Cond.fieldLink RX1 41 "ShareDisk$Requests" "tickets" "I" ∈ wsX1_waiting := by decide +kernel
theorem mwX1_waiting_1 : Cond.fieldLink RX1 45 "ShareDisk$Requests" "served" "I" ∈ wsX1_waiting := by decide +kernel
theorem iwX1_waiting_X1 : ∀ w ∈ wsX10, w ∈ wsX1_waiting := by decide +kernel
set_option maxHeartbeats 4000000 in
set_option maxRecDepth 100000 in
theorem kX1_waiting (l : Launch) (D : va_G) (k : Nat → ClassId) (q : Nat → Nat) (zz : Nat) (ow wr fi sz : Nat → Int32) (dl : Nat → Int64) (wt bl sh so : Nat → Int32) (tn sn un : Nat) (hsn : sn ≤ tn) : MI l yX1_waiting wsX1_waiting ({ frames := 0, cells := 0, slots := 0, locals := 0 } : Room) D k (RqW q k ow wr fi sz dl wt bl sh so tn sn un) zz [.ref (q 0)] (fun r9 w9 => r9 = (nI (tn - sn)) ∧ w9 = RqW q k ow wr fi sz dl wt bl sh so tn sn un) 0 0 := by
  refine bodyOf (Qc := fun A => QI D k (fun r9 w9 => r9 = (nI (tn - sn)) ∧ w9 = RqW q k ow wr fi sz dl wt bl sh so tn sn un) A) (cc := cX1_waiting) (maxL := 1) (ret := (some .int)) (by decide) rfl (Nat.le_of_ble_eq_true rfl) ?_
  intro p e s m below meth c A ls hc hA hK hP hD hS hl
  obtain ⟨hx, hb, hml, hr, hts, hown, hlocks, hin⟩ := (show _ from hc)
  have hl : lv_has ls 1 [(0, .ref (q 0))] := hl
  refine lv_aload_n hx hb dX1_waiting_0 rfl (lv_at hl 0 rfl) ?_
  refine va_get (D := D) (ci := 1) (v := .int (nI tn)) (C := RX1) (T := TX1) (N := 12) hx hb hts iwX1_waiting_X1 hown hK hP 0 rfl rfl 9 (by decide) (hts (Cond.fieldLink RX1 41 "ShareDisk$Requests" "tickets" "I") mwX1_waiting_0) (fun _ h9 => h9) rfl dX1_waiting_1 ?_
  refine lv_aload_n hx hb dX1_waiting_4 rfl (lv_at hl 0 rfl) ?_
  refine va_get (D := D) (ci := 1) (v := .int (nI sn)) (C := RX1) (T := TX1) (N := 12) hx hb hts iwX1_waiting_X1 hown hK hP 0 rfl rfl 10 (by decide) (hts (Cond.fieldLink RX1 45 "ShareDisk$Requests" "served" "I") mwX1_waiting_1) (fun _ h9 => h9) rfl dX1_waiting_5 ?_
  refine lv_isub hx hb dX1_waiting_8 ?_
  exact retI hc dX1_waiting_9 hK hP hD hS (⟨pk_sub hsn, rfl⟩) (Nat.le_of_ble_eq_true rfl) (Nat.le_of_ble_eq_true rfl)
theorem mwX1_served_0 : Cond.fieldLink RX1 45 "ShareDisk$Requests" "served" "I" ∈ wsX1_served := by decide +kernel
theorem iwX1_served_X1 : ∀ w ∈ wsX10, w ∈ wsX1_served := by decide +kernel
set_option maxHeartbeats 4000000 in
set_option maxRecDepth 100000 in
theorem kX1_served (l : Launch) (D : va_G) (k : Nat → ClassId) (q : Nat → Nat) (zz : Nat) (ow wr fi sz : Nat → Int32) (dl : Nat → Int64) (wt bl sh so : Nat → Int32) (tn sn un : Nat) : MI l yX1_served wsX1_served ({ frames := 0, cells := 0, slots := 0, locals := 0 } : Room) D k (RqW q k ow wr fi sz dl wt bl sh so tn sn un) zz [.ref (q 0)] (fun r9 w9 => r9 = (nI sn) ∧ w9 = RqW q k ow wr fi sz dl wt bl sh so tn sn un) 0 0 := by
  refine bodyOf (Qc := fun A => QI D k (fun r9 w9 => r9 = (nI sn) ∧ w9 = RqW q k ow wr fi sz dl wt bl sh so tn sn un) A) (cc := cX1_served) (maxL := 1) (ret := (some .int)) (by decide) rfl (Nat.le_of_ble_eq_true rfl) ?_
  intro p e s m below meth c A ls hc hA hK hP hD hS hl
  obtain ⟨hx, hb, hml, hr, hts, hown, hlocks, hin⟩ := (show _ from hc)
  have hl : lv_has ls 1 [(0, .ref (q 0))] := hl
  refine lv_aload_n hx hb dX1_served_0 rfl (lv_at hl 0 rfl) ?_
  refine va_get (D := D) (ci := 1) (v := .int (nI sn)) (C := RX1) (T := TX1) (N := 12) hx hb hts iwX1_served_X1 hown hK hP 0 rfl rfl 10 (by decide) (hts (Cond.fieldLink RX1 45 "ShareDisk$Requests" "served" "I") mwX1_served_0) (fun _ h9 => h9) rfl dX1_served_1 ?_
  exact retI hc dX1_served_4 hK hP hD hS (⟨rfl, rfl⟩) (Nat.le_of_ble_eq_true rfl) (Nat.le_of_ble_eq_true rfl)
theorem mwX1_urgent_0 : Cond.fieldLink RX1 48 "ShareDisk$Requests" "urgent" "I" ∈ wsX1_urgent := by decide +kernel
theorem iwX1_urgent_X1 : ∀ w ∈ wsX10, w ∈ wsX1_urgent := by decide +kernel
set_option maxHeartbeats 4000000 in
set_option maxRecDepth 100000 in
theorem kX1_urgent (l : Launch) (D : va_G) (k : Nat → ClassId) (q : Nat → Nat) (zz : Nat) (ow wr fi sz : Nat → Int32) (dl : Nat → Int64) (wt bl sh so : Nat → Int32) (tn sn un : Nat) : MI l yX1_urgent wsX1_urgent ({ frames := 0, cells := 0, slots := 0, locals := 0 } : Room) D k (RqW q k ow wr fi sz dl wt bl sh so tn sn un) zz [.ref (q 0)] (fun r9 w9 => r9 = (nI un) ∧ w9 = RqW q k ow wr fi sz dl wt bl sh so tn sn un) 0 0 := by
  refine bodyOf (Qc := fun A => QI D k (fun r9 w9 => r9 = (nI un) ∧ w9 = RqW q k ow wr fi sz dl wt bl sh so tn sn un) A) (cc := cX1_urgent) (maxL := 1) (ret := (some .int)) (by decide) rfl (Nat.le_of_ble_eq_true rfl) ?_
  intro p e s m below meth c A ls hc hA hK hP hD hS hl
  obtain ⟨hx, hb, hml, hr, hts, hown, hlocks, hin⟩ := (show _ from hc)
  have hl : lv_has ls 1 [(0, .ref (q 0))] := hl
  refine lv_aload_n hx hb dX1_urgent_0 rfl (lv_at hl 0 rfl) ?_
  refine va_get (D := D) (ci := 1) (v := .int (nI un)) (C := RX1) (T := TX1) (N := 12) hx hb hts iwX1_urgent_X1 hown hK hP 0 rfl rfl 11 (by decide) (hts (Cond.fieldLink RX1 48 "ShareDisk$Requests" "urgent" "I") mwX1_urgent_0) (fun _ h9 => h9) rfl dX1_urgent_1 ?_
  exact retI hc dX1_urgent_4 hK hP hD hS (⟨rfl, rfl⟩) (Nat.le_of_ble_eq_true rfl) (Nat.le_of_ble_eq_true rfl)
theorem mwX1_servedAt_0 : Cond.fieldLink RX1 45 "ShareDisk$Requests" "served" "I" ∈ wsX1_servedAt := by decide +kernel
theorem mwX1_servedAt_1 : Cond.fieldLink RX1 38 "ShareDisk$Requests" "servedOrder" "[I" ∈ wsX1_servedAt := by decide +kernel
theorem iwX1_servedAt_X1 : ∀ w ∈ wsX10, w ∈ wsX1_servedAt := by decide +kernel
set_option maxHeartbeats 4000000 in
set_option maxRecDepth 100000 in
theorem kX1_servedAt (l : Launch) (D : va_G) (k : Nat → ClassId) (q : Nat → Nat) (zz : Nat) (ow wr fi sz : Nat → Int32) (dl : Nat → Int64) (wt bl sh so : Nat → Int32) (tn sn un : Nat) (x : Int32) (hsn : sn ≤ 500) : MI l yX1_servedAt wsX1_servedAt ({ frames := 0, cells := 0, slots := 0, locals := 0 } : Room) D k (RqW q k ow wr fi sz dl wt bl sh so tn sn un) zz [.ref (q 0), .int x] (fun r9 w9 => r9 = (sAt so sn x) ∧ w9 = RqW q k ow wr fi sz dl wt bl sh so tn sn un) 0 0 := by
  refine bodyOf (Qc := fun A => QI D k (fun r9 w9 => r9 = (sAt so sn x) ∧ w9 = RqW q k ow wr fi sz dl wt bl sh so tn sn un) A) (cc := cX1_servedAt) (maxL := 2) (ret := (some .int)) (by decide) rfl (Nat.le_of_ble_eq_true rfl) ?_
  intro p e s m below meth c A ls hc hA hK hP hD hS hl
  obtain ⟨hx, hb, hml, hr, hts, hown, hlocks, hin⟩ := (show _ from hc)
  have hl : lv_has ls 2 [(0, .ref (q 0)), (1, .int x)] := hl
  refine lv_iload_n hx hb dX1_servedAt_0 rfl (lv_at hl 1 rfl) ?_
  refine lv_if_lt (tgt := 21) hx hb dX1_servedAt_1 (by decide) (fun c1 => ?_) (fun c1 => ?_)
  · refine lv_iconst (v := (-1)) hx hb dX1_servedAt_21 (by decide) ?_
    exact retI hc dX1_servedAt_22 hK hP hD hS (⟨by simp [sAt, c1], rfl⟩) (Nat.le_of_ble_eq_true rfl) (Nat.le_of_ble_eq_true rfl)
  · refine lv_iload_n hx hb dX1_servedAt_4 rfl (lv_at hl 1 rfl) ?_
    refine lv_aload_n hx hb dX1_servedAt_5 rfl (lv_at hl 0 rfl) ?_
    refine va_get (D := D) (ci := 1) (v := .int (nI sn)) (C := RX1) (T := TX1) (N := 12) hx hb hts iwX1_servedAt_X1 hown hK hP 0 rfl rfl 10 (by decide) (hts (Cond.fieldLink RX1 45 "ShareDisk$Requests" "served" "I") mwX1_servedAt_0) (fun _ h9 => h9) rfl dX1_servedAt_6 ?_
    refine lv_icmp_ge (tgt := 21) hx hb dX1_servedAt_9 (by decide) (fun c2 => ?_) (fun c2 => ?_)
    · refine lv_iconst (v := (-1)) hx hb dX1_servedAt_21 (by decide) ?_
      exact retI hc dX1_servedAt_22 hK hP hD hS (⟨by simp [sAt, c1, c2], rfl⟩) (Nat.le_of_ble_eq_true rfl) (Nat.le_of_ble_eq_true rfl)
    · obtain ⟨j, hj, rfl⟩ := ofI c1 c2 (by omega)
      refine lv_aload_n hx hb dX1_servedAt_12 rfl (lv_at hl 0 rfl) ?_
      refine va_get (D := D) (ci := 1) (v := .ref (q 9)) (C := RX1) (T := TX1) (N := 12) hx hb hts iwX1_servedAt_X1 hown hK hP 0 rfl rfl 8 (by decide) (hts (Cond.fieldLink RX1 38 "ShareDisk$Requests" "servedOrder" "[I") mwX1_servedAt_1) (fun _ h9 => h9) rfl dX1_servedAt_13 ?_
      refine lv_iload_n hx hb dX1_servedAt_16 rfl (lv_at hl 1 rfl) ?_
      refine aI hx hb hK hP 9 1 rfl rfl (ix5 (by omega)) dX1_servedAt_17 ?_
      refine lv_goto (tgt := 22) hx hb dX1_servedAt_18 (by decide) ?_
      exact retI hc dX1_servedAt_22 hK hP hD hS (⟨by simp [sAt, c1, c2, nI_clamp (show j < 2 ^ 31 by omega)], rfl⟩) (Nat.le_of_ble_eq_true rfl) (Nat.le_of_ble_eq_true rfl)
theorem mwX1_stateOf_0 : Cond.fieldLink RX1 29 "ShareDisk$Requests" "waits" "[Z" ∈ wsX1_stateOf := by decide +kernel
theorem mwX1_stateOf_1 : Cond.fieldLink RX1 32 "ShareDisk$Requests" "blockers" "[I" ∈ wsX1_stateOf := by decide +kernel
theorem mwX1_stateOf_2 : Cond.fieldLink RX1 35 "ShareDisk$Requests" "servedHow" "[I" ∈ wsX1_stateOf := by decide +kernel
theorem iwX1_stateOf_X1 : ∀ w ∈ wsX10, w ∈ wsX1_stateOf := by decide +kernel
set_option maxHeartbeats 4000000 in
set_option maxRecDepth 100000 in
theorem kX1_stateOf (l : Launch) (D : va_G) (k : Nat → ClassId) (q : Nat → Nat) (zz : Nat) (ow wr fi sz : Nat → Int32) (dl : Nat → Int64) (wt bl sh so : Nat → Int32) (tn sn un : Nat) (t : Nat) (ht : t < 500) : MI l yX1_stateOf wsX1_stateOf ({ frames := 0, cells := 0, slots := 0, locals := 0 } : Room) D k (RqW q k ow wr fi sz dl wt bl sh so tn sn un) zz [.ref (q 0), .int (nI t)] (fun r9 w9 => r9 = (stF wt bl sh t) ∧ w9 = RqW q k ow wr fi sz dl wt bl sh so tn sn un) 0 0 := by
  refine bodyOf (Qc := fun A => QI D k (fun r9 w9 => r9 = (stF wt bl sh t) ∧ w9 = RqW q k ow wr fi sz dl wt bl sh so tn sn un) A) (cc := cX1_stateOf) (maxL := 2) (ret := (some .int)) (by decide) rfl (Nat.le_of_ble_eq_true rfl) ?_
  intro p e s m below meth c A ls hc hA hK hP hD hS hl
  obtain ⟨hx, hb, hml, hr, hts, hown, hlocks, hin⟩ := (show _ from hc)
  have hl : lv_has ls 2 [(0, .ref (q 0)), (1, .int (nI t))] := hl
  refine lv_aload_n hx hb dX1_stateOf_0 rfl (lv_at hl 0 rfl) ?_
  refine va_get (D := D) (ci := 1) (v := .ref (q 6)) (C := RX1) (T := TX1) (N := 12) hx hb hts iwX1_stateOf_X1 hown hK hP 0 rfl rfl 5 (by decide) (hts (Cond.fieldLink RX1 29 "ShareDisk$Requests" "waits" "[Z") mwX1_stateOf_0) (fun _ h9 => h9) rfl dX1_stateOf_1 ?_
  refine lv_iload_n hx hb dX1_stateOf_4 rfl (lv_at hl 1 rfl) ?_
  refine aZ hx hb hK hP 6 0 rfl rfl (ix5 ht) dX1_stateOf_5 ?_
  refine lv_if_ne (tgt := 16) hx hb dX1_stateOf_6 (by decide) (fun c1 => ?_) (fun c1 => ?_)
  · refine lv_aload_n hx hb dX1_stateOf_16 rfl (lv_at hl 0 rfl) ?_
    refine va_get (D := D) (ci := 1) (v := .ref (q 7)) (C := RX1) (T := TX1) (N := 12) hx hb hts iwX1_stateOf_X1 hown hK hP 0 rfl rfl 6 (by decide) (hts (Cond.fieldLink RX1 32 "ShareDisk$Requests" "blockers" "[I") mwX1_stateOf_1) (fun _ h9 => h9) rfl dX1_stateOf_17 ?_
    refine lv_iload_n hx hb dX1_stateOf_20 rfl (lv_at hl 1 rfl) ?_
    refine aI hx hb hK hP 7 1 rfl rfl (ix5 ht) dX1_stateOf_21 ?_
    refine lv_if_le (tgt := 29) hx hb dX1_stateOf_22 (by decide) (fun c2 => ?_) (fun c2 => ?_)
    · refine lv_iconst (v := nI 1) hx hb dX1_stateOf_29 (by decide) ?_
      exact retI hc dX1_stateOf_30 hK hP hD hS (⟨by simp [stF, c1, c2], rfl⟩) (Nat.le_of_ble_eq_true rfl) (Nat.le_of_ble_eq_true rfl)
    · refine lv_iconst (v := nI 0) hx hb dX1_stateOf_25 (by decide) ?_
      refine lv_goto (tgt := 30) hx hb dX1_stateOf_26 (by decide) ?_
      exact retI hc dX1_stateOf_30 hK hP hD hS (⟨by simp [stF, c1, c2], rfl⟩) (Nat.le_of_ble_eq_true rfl) (Nat.le_of_ble_eq_true rfl)
  · refine lv_aload_n hx hb dX1_stateOf_9 rfl (lv_at hl 0 rfl) ?_
    refine va_get (D := D) (ci := 1) (v := .ref (q 8)) (C := RX1) (T := TX1) (N := 12) hx hb hts iwX1_stateOf_X1 hown hK hP 0 rfl rfl 7 (by decide) (hts (Cond.fieldLink RX1 35 "ShareDisk$Requests" "servedHow" "[I") mwX1_stateOf_2) (fun _ h9 => h9) rfl dX1_stateOf_10 ?_
    refine lv_iload_n hx hb dX1_stateOf_13 rfl (lv_at hl 1 rfl) ?_
    refine aI hx hb hK hP 8 1 rfl rfl (ix5 ht) dX1_stateOf_14 ?_
    exact retI hc dX1_stateOf_15 hK hP hD hS (⟨by simp [stF, c1], rfl⟩) (Nat.le_of_ble_eq_true rfl) (Nat.le_of_ble_eq_true rfl)
theorem mwX1_mustKeepOrder_0 : Cond.fieldLink RX1 9 "ShareDisk$Requests" "owner" "[I" ∈ wsX1_mustKeepOrder := by decide +kernel
theorem mwX1_mustKeepOrder_1 : Cond.fieldLink RX1 15 "ShareDisk$Requests" "write" "[Z" ∈ wsX1_mustKeepOrder := by decide +kernel
theorem mwX1_mustKeepOrder_2 : Cond.fieldLink RX1 19 "ShareDisk$Requests" "first" "[I" ∈ wsX1_mustKeepOrder := by decide +kernel
theorem mwX1_mustKeepOrder_3 : Cond.fieldLink RX1 22 "ShareDisk$Requests" "size" "[I" ∈ wsX1_mustKeepOrder := by decide +kernel
theorem iwX1_mustKeepOrder_X1 : ∀ w ∈ wsX10, w ∈ wsX1_mustKeepOrder := by decide +kernel
set_option maxHeartbeats 4000000 in
set_option maxRecDepth 100000 in
theorem kX1_mustKeepOrder (l : Launch) (D : va_G) (k : Nat → ClassId) (q : Nat → Nat) (zz : Nat) (ow wr fi sz : Nat → Int32) (dl : Nat → Int64) (wt bl sh so : Nat → Int32) (tn sn un : Nat) (a : Nat) (b : Nat) (ha : a < 500) (hb5 : b < 500) : MI l yX1_mustKeepOrder wsX1_mustKeepOrder ({ frames := 0, cells := 0, slots := 0, locals := 0 } : Room) D k (RqW q k ow wr fi sz dl wt bl sh so tn sn un) zz [.ref (q 0), .int (nI a), .int (nI b)] (fun r9 w9 => r9 = (bI (mkO ow wr fi sz a b)) ∧ w9 = RqW q k ow wr fi sz dl wt bl sh so tn sn un) 0 0 := by
  refine bodyOf (Qc := fun A => QI D k (fun r9 w9 => r9 = (bI (mkO ow wr fi sz a b)) ∧ w9 = RqW q k ow wr fi sz dl wt bl sh so tn sn un) A) (cc := cX1_mustKeepOrder) (maxL := 3) (ret := (some .boolean)) (by decide) rfl (Nat.le_of_ble_eq_true rfl) ?_
  intro p e s m below meth c A ls hc hA hK hP hD hS hl
  obtain ⟨hx, hb, hml, hr, hts, hown, hlocks, hin⟩ := (show _ from hc)
  have hl : lv_has ls 3 [(0, .ref (q 0)), (1, .int (nI a)), (2, .int (nI b))] := hl
  refine lv_aload_n hx hb dX1_mustKeepOrder_0 rfl (lv_at hl 0 rfl) ?_
  refine va_get (D := D) (ci := 1) (v := .ref (q 1)) (C := RX1) (T := TX1) (N := 12) hx hb hts iwX1_mustKeepOrder_X1 hown hK hP 0 rfl rfl 0 (by decide) (hts (Cond.fieldLink RX1 9 "ShareDisk$Requests" "owner" "[I") mwX1_mustKeepOrder_0) (fun _ h9 => h9) rfl dX1_mustKeepOrder_1 ?_
  refine lv_iload_n hx hb dX1_mustKeepOrder_4 rfl (lv_at hl 1 rfl) ?_
  refine aI hx hb hK hP 1 1 rfl rfl (ix5 ha) dX1_mustKeepOrder_5 ?_
  refine lv_aload_n hx hb dX1_mustKeepOrder_6 rfl (lv_at hl 0 rfl) ?_
  refine va_get (D := D) (ci := 1) (v := .ref (q 1)) (C := RX1) (T := TX1) (N := 12) hx hb hts iwX1_mustKeepOrder_X1 hown hK hP 0 rfl rfl 0 (by decide) (hts (Cond.fieldLink RX1 9 "ShareDisk$Requests" "owner" "[I") mwX1_mustKeepOrder_0) (fun _ h9 => h9) rfl dX1_mustKeepOrder_7 ?_
  refine lv_iload_n hx hb dX1_mustKeepOrder_10 rfl (lv_at hl 2 rfl) ?_
  refine aI hx hb hK hP 1 1 rfl rfl (ix5 hb5) dX1_mustKeepOrder_11 ?_
  refine lv_icmp_ne (tgt := 81) hx hb dX1_mustKeepOrder_12 (by decide) (fun c1 => ?_) (fun c1 => ?_)
  · refine lv_iconst (v := nI 0) hx hb dX1_mustKeepOrder_81 (by decide) ?_
    exact retZ hc dX1_mustKeepOrder_82 hK hP hD hS (Or.inl rfl) (⟨bI_f (by simp [c1]), rfl⟩) (Nat.le_of_ble_eq_true rfl) (Nat.le_of_ble_eq_true rfl)
  · refine lv_aload_n hx hb dX1_mustKeepOrder_15 rfl (lv_at hl 0 rfl) ?_
    refine va_get (D := D) (ci := 1) (v := .ref (q 2)) (C := RX1) (T := TX1) (N := 12) hx hb hts iwX1_mustKeepOrder_X1 hown hK hP 0 rfl rfl 1 (by decide) (hts (Cond.fieldLink RX1 15 "ShareDisk$Requests" "write" "[Z") mwX1_mustKeepOrder_1) (fun _ h9 => h9) rfl dX1_mustKeepOrder_16 ?_
    refine lv_iload_n hx hb dX1_mustKeepOrder_19 rfl (lv_at hl 1 rfl) ?_
    refine aZ hx hb hK hP 2 0 rfl rfl (ix5 ha) dX1_mustKeepOrder_20 ?_
    refine lv_if_ne (tgt := 33) hx hb dX1_mustKeepOrder_21 (by decide) (fun c2 => ?_) (fun c2 => ?_)
    · refine lv_aload_n hx hb dX1_mustKeepOrder_33 rfl (lv_at hl 0 rfl) ?_
      refine va_get (D := D) (ci := 1) (v := .ref (q 3)) (C := RX1) (T := TX1) (N := 12) hx hb hts iwX1_mustKeepOrder_X1 hown hK hP 0 rfl rfl 2 (by decide) (hts (Cond.fieldLink RX1 19 "ShareDisk$Requests" "first" "[I") mwX1_mustKeepOrder_2) (fun _ h9 => h9) rfl dX1_mustKeepOrder_34 ?_
      refine lv_iload_n hx hb dX1_mustKeepOrder_37 rfl (lv_at hl 1 rfl) ?_
      refine aI hx hb hK hP 3 1 rfl rfl (ix5 ha) dX1_mustKeepOrder_38 ?_
      refine lv_aload_n hx hb dX1_mustKeepOrder_39 rfl (lv_at hl 0 rfl) ?_
      refine va_get (D := D) (ci := 1) (v := .ref (q 3)) (C := RX1) (T := TX1) (N := 12) hx hb hts iwX1_mustKeepOrder_X1 hown hK hP 0 rfl rfl 2 (by decide) (hts (Cond.fieldLink RX1 19 "ShareDisk$Requests" "first" "[I") mwX1_mustKeepOrder_2) (fun _ h9 => h9) rfl dX1_mustKeepOrder_40 ?_
      refine lv_iload_n hx hb dX1_mustKeepOrder_43 rfl (lv_at hl 2 rfl) ?_
      refine aI hx hb hK hP 3 1 rfl rfl (ix5 hb5) dX1_mustKeepOrder_44 ?_
      refine lv_aload_n hx hb dX1_mustKeepOrder_45 rfl (lv_at hl 0 rfl) ?_
      refine va_get (D := D) (ci := 1) (v := .ref (q 4)) (C := RX1) (T := TX1) (N := 12) hx hb hts iwX1_mustKeepOrder_X1 hown hK hP 0 rfl rfl 3 (by decide) (hts (Cond.fieldLink RX1 22 "ShareDisk$Requests" "size" "[I") mwX1_mustKeepOrder_3) (fun _ h9 => h9) rfl dX1_mustKeepOrder_46 ?_
      refine lv_iload_n hx hb dX1_mustKeepOrder_49 rfl (lv_at hl 2 rfl) ?_
      refine aI hx hb hK hP 4 1 rfl rfl (ix5 hb5) dX1_mustKeepOrder_50 ?_
      refine lv_iadd hx hb dX1_mustKeepOrder_51 ?_
      refine lv_icmp_ge (tgt := 81) hx hb dX1_mustKeepOrder_52 (by decide) (fun c3 => ?_) (fun c3 => ?_)
      · refine lv_iconst (v := nI 0) hx hb dX1_mustKeepOrder_81 (by decide) ?_
        exact retZ hc dX1_mustKeepOrder_82 hK hP hD hS (Or.inl rfl) (⟨bI_f (by simp [c1, c2, c3]), rfl⟩) (Nat.le_of_ble_eq_true rfl) (Nat.le_of_ble_eq_true rfl)
      · refine lv_aload_n hx hb dX1_mustKeepOrder_55 rfl (lv_at hl 0 rfl) ?_
        refine va_get (D := D) (ci := 1) (v := .ref (q 3)) (C := RX1) (T := TX1) (N := 12) hx hb hts iwX1_mustKeepOrder_X1 hown hK hP 0 rfl rfl 2 (by decide) (hts (Cond.fieldLink RX1 19 "ShareDisk$Requests" "first" "[I") mwX1_mustKeepOrder_2) (fun _ h9 => h9) rfl dX1_mustKeepOrder_56 ?_
        refine lv_iload_n hx hb dX1_mustKeepOrder_59 rfl (lv_at hl 2 rfl) ?_
        refine aI hx hb hK hP 3 1 rfl rfl (ix5 hb5) dX1_mustKeepOrder_60 ?_
        refine lv_aload_n hx hb dX1_mustKeepOrder_61 rfl (lv_at hl 0 rfl) ?_
        refine va_get (D := D) (ci := 1) (v := .ref (q 3)) (C := RX1) (T := TX1) (N := 12) hx hb hts iwX1_mustKeepOrder_X1 hown hK hP 0 rfl rfl 2 (by decide) (hts (Cond.fieldLink RX1 19 "ShareDisk$Requests" "first" "[I") mwX1_mustKeepOrder_2) (fun _ h9 => h9) rfl dX1_mustKeepOrder_62 ?_
        refine lv_iload_n hx hb dX1_mustKeepOrder_65 rfl (lv_at hl 1 rfl) ?_
        refine aI hx hb hK hP 3 1 rfl rfl (ix5 ha) dX1_mustKeepOrder_66 ?_
        refine lv_aload_n hx hb dX1_mustKeepOrder_67 rfl (lv_at hl 0 rfl) ?_
        refine va_get (D := D) (ci := 1) (v := .ref (q 4)) (C := RX1) (T := TX1) (N := 12) hx hb hts iwX1_mustKeepOrder_X1 hown hK hP 0 rfl rfl 3 (by decide) (hts (Cond.fieldLink RX1 22 "ShareDisk$Requests" "size" "[I") mwX1_mustKeepOrder_3) (fun _ h9 => h9) rfl dX1_mustKeepOrder_68 ?_
        refine lv_iload_n hx hb dX1_mustKeepOrder_71 rfl (lv_at hl 1 rfl) ?_
        refine aI hx hb hK hP 4 1 rfl rfl (ix5 ha) dX1_mustKeepOrder_72 ?_
        refine lv_iadd hx hb dX1_mustKeepOrder_73 ?_
        refine lv_icmp_ge (tgt := 81) hx hb dX1_mustKeepOrder_74 (by decide) (fun c4 => ?_) (fun c4 => ?_)
        · refine lv_iconst (v := nI 0) hx hb dX1_mustKeepOrder_81 (by decide) ?_
          exact retZ hc dX1_mustKeepOrder_82 hK hP hD hS (Or.inl rfl) (⟨bI_f (by simp [c1, c2, c3, c4]), rfl⟩) (Nat.le_of_ble_eq_true rfl) (Nat.le_of_ble_eq_true rfl)
        · refine lv_iconst (v := nI 1) hx hb dX1_mustKeepOrder_77 (by decide) ?_
          refine lv_goto (tgt := 82) hx hb dX1_mustKeepOrder_78 (by decide) ?_
          exact retZ hc dX1_mustKeepOrder_82 hK hP hD hS (Or.inr rfl) (⟨bI_t ⟨c1, Or.inl c2, c3, c4⟩, rfl⟩) (Nat.le_of_ble_eq_true rfl) (Nat.le_of_ble_eq_true rfl)
    · refine lv_aload_n hx hb dX1_mustKeepOrder_24 rfl (lv_at hl 0 rfl) ?_
      refine va_get (D := D) (ci := 1) (v := .ref (q 2)) (C := RX1) (T := TX1) (N := 12) hx hb hts iwX1_mustKeepOrder_X1 hown hK hP 0 rfl rfl 1 (by decide) (hts (Cond.fieldLink RX1 15 "ShareDisk$Requests" "write" "[Z") mwX1_mustKeepOrder_1) (fun _ h9 => h9) rfl dX1_mustKeepOrder_25 ?_
      refine lv_iload_n hx hb dX1_mustKeepOrder_28 rfl (lv_at hl 2 rfl) ?_
      refine aZ hx hb hK hP 2 0 rfl rfl (ix5 hb5) dX1_mustKeepOrder_29 ?_
      refine lv_if_eq (tgt := 81) hx hb dX1_mustKeepOrder_30 (by decide) (fun c5 => ?_) (fun c5 => ?_)
      · refine lv_iconst (v := nI 0) hx hb dX1_mustKeepOrder_81 (by decide) ?_
        exact retZ hc dX1_mustKeepOrder_82 hK hP hD hS (Or.inl rfl) (⟨bI_f (by simp [c1, c2, c5]), rfl⟩) (Nat.le_of_ble_eq_true rfl) (Nat.le_of_ble_eq_true rfl)
      · refine lv_aload_n hx hb dX1_mustKeepOrder_33 rfl (lv_at hl 0 rfl) ?_
        refine va_get (D := D) (ci := 1) (v := .ref (q 3)) (C := RX1) (T := TX1) (N := 12) hx hb hts iwX1_mustKeepOrder_X1 hown hK hP 0 rfl rfl 2 (by decide) (hts (Cond.fieldLink RX1 19 "ShareDisk$Requests" "first" "[I") mwX1_mustKeepOrder_2) (fun _ h9 => h9) rfl dX1_mustKeepOrder_34 ?_
        refine lv_iload_n hx hb dX1_mustKeepOrder_37 rfl (lv_at hl 1 rfl) ?_
        refine aI hx hb hK hP 3 1 rfl rfl (ix5 ha) dX1_mustKeepOrder_38 ?_
        refine lv_aload_n hx hb dX1_mustKeepOrder_39 rfl (lv_at hl 0 rfl) ?_
        refine va_get (D := D) (ci := 1) (v := .ref (q 3)) (C := RX1) (T := TX1) (N := 12) hx hb hts iwX1_mustKeepOrder_X1 hown hK hP 0 rfl rfl 2 (by decide) (hts (Cond.fieldLink RX1 19 "ShareDisk$Requests" "first" "[I") mwX1_mustKeepOrder_2) (fun _ h9 => h9) rfl dX1_mustKeepOrder_40 ?_
        refine lv_iload_n hx hb dX1_mustKeepOrder_43 rfl (lv_at hl 2 rfl) ?_
        refine aI hx hb hK hP 3 1 rfl rfl (ix5 hb5) dX1_mustKeepOrder_44 ?_
        refine lv_aload_n hx hb dX1_mustKeepOrder_45 rfl (lv_at hl 0 rfl) ?_
        refine va_get (D := D) (ci := 1) (v := .ref (q 4)) (C := RX1) (T := TX1) (N := 12) hx hb hts iwX1_mustKeepOrder_X1 hown hK hP 0 rfl rfl 3 (by decide) (hts (Cond.fieldLink RX1 22 "ShareDisk$Requests" "size" "[I") mwX1_mustKeepOrder_3) (fun _ h9 => h9) rfl dX1_mustKeepOrder_46 ?_
        refine lv_iload_n hx hb dX1_mustKeepOrder_49 rfl (lv_at hl 2 rfl) ?_
        refine aI hx hb hK hP 4 1 rfl rfl (ix5 hb5) dX1_mustKeepOrder_50 ?_
        refine lv_iadd hx hb dX1_mustKeepOrder_51 ?_
        refine lv_icmp_ge (tgt := 81) hx hb dX1_mustKeepOrder_52 (by decide) (fun c6 => ?_) (fun c6 => ?_)
        · refine lv_iconst (v := nI 0) hx hb dX1_mustKeepOrder_81 (by decide) ?_
          exact retZ hc dX1_mustKeepOrder_82 hK hP hD hS (Or.inl rfl) (⟨bI_f (by simp [c1, c2, c5, c6]), rfl⟩) (Nat.le_of_ble_eq_true rfl) (Nat.le_of_ble_eq_true rfl)
        · refine lv_aload_n hx hb dX1_mustKeepOrder_55 rfl (lv_at hl 0 rfl) ?_
          refine va_get (D := D) (ci := 1) (v := .ref (q 3)) (C := RX1) (T := TX1) (N := 12) hx hb hts iwX1_mustKeepOrder_X1 hown hK hP 0 rfl rfl 2 (by decide) (hts (Cond.fieldLink RX1 19 "ShareDisk$Requests" "first" "[I") mwX1_mustKeepOrder_2) (fun _ h9 => h9) rfl dX1_mustKeepOrder_56 ?_
          refine lv_iload_n hx hb dX1_mustKeepOrder_59 rfl (lv_at hl 2 rfl) ?_
          refine aI hx hb hK hP 3 1 rfl rfl (ix5 hb5) dX1_mustKeepOrder_60 ?_
          refine lv_aload_n hx hb dX1_mustKeepOrder_61 rfl (lv_at hl 0 rfl) ?_
          refine va_get (D := D) (ci := 1) (v := .ref (q 3)) (C := RX1) (T := TX1) (N := 12) hx hb hts iwX1_mustKeepOrder_X1 hown hK hP 0 rfl rfl 2 (by decide) (hts (Cond.fieldLink RX1 19 "ShareDisk$Requests" "first" "[I") mwX1_mustKeepOrder_2) (fun _ h9 => h9) rfl dX1_mustKeepOrder_62 ?_
          refine lv_iload_n hx hb dX1_mustKeepOrder_65 rfl (lv_at hl 1 rfl) ?_
          refine aI hx hb hK hP 3 1 rfl rfl (ix5 ha) dX1_mustKeepOrder_66 ?_
          refine lv_aload_n hx hb dX1_mustKeepOrder_67 rfl (lv_at hl 0 rfl) ?_
          refine va_get (D := D) (ci := 1) (v := .ref (q 4)) (C := RX1) (T := TX1) (N := 12) hx hb hts iwX1_mustKeepOrder_X1 hown hK hP 0 rfl rfl 3 (by decide) (hts (Cond.fieldLink RX1 22 "ShareDisk$Requests" "size" "[I") mwX1_mustKeepOrder_3) (fun _ h9 => h9) rfl dX1_mustKeepOrder_68 ?_
          refine lv_iload_n hx hb dX1_mustKeepOrder_71 rfl (lv_at hl 1 rfl) ?_
          refine aI hx hb hK hP 4 1 rfl rfl (ix5 ha) dX1_mustKeepOrder_72 ?_
          refine lv_iadd hx hb dX1_mustKeepOrder_73 ?_
          refine lv_icmp_ge (tgt := 81) hx hb dX1_mustKeepOrder_74 (by decide) (fun c7 => ?_) (fun c7 => ?_)
          · refine lv_iconst (v := nI 0) hx hb dX1_mustKeepOrder_81 (by decide) ?_
            exact retZ hc dX1_mustKeepOrder_82 hK hP hD hS (Or.inl rfl) (⟨bI_f (by simp [c1, c2, c5, c6, c7]), rfl⟩) (Nat.le_of_ble_eq_true rfl) (Nat.le_of_ble_eq_true rfl)
          · refine lv_iconst (v := nI 1) hx hb dX1_mustKeepOrder_77 (by decide) ?_
            refine lv_goto (tgt := 82) hx hb dX1_mustKeepOrder_78 (by decide) ?_
            exact retZ hc dX1_mustKeepOrder_82 hK hP hD hS (Or.inr rfl) (⟨bI_t ⟨c1, Or.inr c5, c6, c7⟩, rfl⟩) (Nat.le_of_ble_eq_true rfl) (Nat.le_of_ble_eq_true rfl)
theorem mwX1_add_0 : Cond.fieldLink RX1 41 "ShareDisk$Requests" "tickets" "I" ∈ wsX1_add := by decide +kernel
theorem mwX1_add_1 : Cond.fieldLink RX1 9 "ShareDisk$Requests" "owner" "[I" ∈ wsX1_add := by decide +kernel
theorem mwX1_add_2 : Cond.fieldLink RX1 15 "ShareDisk$Requests" "write" "[Z" ∈ wsX1_add := by decide +kernel
theorem mwX1_add_3 : Cond.fieldLink RX1 19 "ShareDisk$Requests" "first" "[I" ∈ wsX1_add := by decide +kernel
theorem mwX1_add_4 : Cond.fieldLink RX1 22 "ShareDisk$Requests" "size" "[I" ∈ wsX1_add := by decide +kernel
theorem mwX1_add_5 : Cond.fieldLink RX1 25 "ShareDisk$Requests" "deadline" "[J" ∈ wsX1_add := by decide +kernel
theorem mwX1_add_6 : Cond.fieldLink RX1 29 "ShareDisk$Requests" "waits" "[Z" ∈ wsX1_add := by decide +kernel
theorem mwX1_add_7 : Cond.fieldLink RX1 32 "ShareDisk$Requests" "blockers" "[I" ∈ wsX1_add := by decide +kernel
theorem iwX1_add_X1 : ∀ w ∈ wsX10, w ∈ wsX1_add := by decide +kernel
set_option maxHeartbeats 4000000 in
set_option maxRecDepth 100000 in
theorem kX1_add (l : Launch) (D : va_G) (k : Nat → ClassId) (q : Nat → Nat) (zz : Nat) (ow wr fi sz : Nat → Int32) (dl : Nat → Int64) (wt bl sh so : Nat → Int32) (tn sn un : Nat) (id : Nat) (w : Int32) (x : Int32) (y : Int32) (z : Int64) (htn : tn < 500) (hw : w = 0 ∨ w = 1) : MI l yX1_add wsX1_add ({ frames := 1, cells := 0, slots := 0, locals := 22 } : Room) D k (RqW q k ow wr fi sz dl wt bl sh so tn sn un) zz [.ref (q 0), .int (nI id), .int w, .int x, .int y, .long z] (fun r9 w9 => r9 = (nI tn) ∧ w9 = RqW q k (upd ow tn (nI id)) (upd wr tn w) (upd fi tn x) (upd sz tn y) (vp_updL dl tn z) (upd wt tn (nI 1)) (adB (upd ow tn (nI id)) (upd wr tn w) (upd fi tn x) (upd sz tn y) (upd wt tn (nI 1)) bl tn tn) sh so (tn + 1) sn un) 0 0 := by
  refine bodyOf (Qc := fun A => QI D k (fun r9 w9 => r9 = (nI tn) ∧ w9 = RqW q k (upd ow tn (nI id)) (upd wr tn w) (upd fi tn x) (upd sz tn y) (vp_updL dl tn z) (upd wt tn (nI 1)) (adB (upd ow tn (nI id)) (upd wr tn w) (upd fi tn x) (upd sz tn y) (upd wt tn (nI 1)) bl tn tn) sh so (tn + 1) sn un) A) (cc := cX1_add) (maxL := 9) (ret := (some .int)) (by decide) rfl (Nat.le_of_ble_eq_true rfl) ?_
  intro p e s m below meth c A ls hc hA hK hP hD hS hl
  obtain ⟨hx, hb, hml, hr, hts, hown, hlocks, hin⟩ := (show _ from hc)
  have hl : lv_has ls 9 [(0, .ref (q 0)), (1, .int (nI id)), (2, .int w), (3, .int x), (4, .int y), (5, .long z)] := hl
  refine lv_aload_n hx hb dX1_add_0 rfl (lv_at hl 0 rfl) ?_
  refine va_get (D := D) (ci := 1) (v := .int (nI tn)) (C := RX1) (T := TX1) (N := 12) hx hb hts iwX1_add_X1 hown hK hP 0 rfl rfl 9 (by decide) (hts (Cond.fieldLink RX1 41 "ShareDisk$Requests" "tickets" "I") mwX1_add_0) (fun _ h9 => h9) rfl dX1_add_1 ?_
  refine lv_istore (lv' := [(7, .int (nI tn)), (0, .ref (q 0)), (1, .int (nI id)), (2, .int w), (3, .int x), (4, .int y), (5, .long z)]) hx hb dX1_add_4 hl (by decide) rfl (fun ls hl => ?_)
  refine lv_aload_n hx hb dX1_add_6 rfl (lv_at hl 1 rfl) ?_
  refine va_get (D := D) (ci := 1) (v := .ref (q 1)) (C := RX1) (T := TX1) (N := 12) hx hb hts iwX1_add_X1 hown hK hP 0 rfl rfl 0 (by decide) (hts (Cond.fieldLink RX1 9 "ShareDisk$Requests" "owner" "[I") mwX1_add_1) (fun _ h9 => h9) rfl dX1_add_7 ?_
  refine lv_iload hx hb dX1_add_10 (lv_at hl 0 rfl) ?_
  refine lv_iload_n hx hb dX1_add_12 rfl (lv_at hl 2 rfl) ?_
  refine sI hx hb hK hP hD hS 1 1 rfl rfl (ix5 htn) dX1_add_13 (fun H locs hP hD hS => ?_)
  have hP : va_P D vwCl (RqW q k (upd ow tn (nI id)) wr fi sz dl wt bl sh so tn sn un) H := hP
  have hD : va_D A (RqW q k (upd ow tn (nI id)) wr fi sz dl wt bl sh so tn sn un) := hD
  refine lv_aload_n hx hb dX1_add_14 rfl (lv_at hl 1 rfl) ?_
  refine va_get (D := D) (ci := 1) (v := .ref (q 2)) (C := RX1) (T := TX1) (N := 12) hx hb hts iwX1_add_X1 hown hK hP 0 rfl rfl 1 (by decide) (hts (Cond.fieldLink RX1 15 "ShareDisk$Requests" "write" "[Z") mwX1_add_2) (fun _ h9 => h9) rfl dX1_add_15 ?_
  refine lv_iload hx hb dX1_add_18 (lv_at hl 0 rfl) ?_
  refine lv_iload_n hx hb dX1_add_20 rfl (lv_at hl 3 rfl) ?_
  refine sZ hx hb hK hP hD hS 2 0 rfl rfl (ix5 htn) hw dX1_add_21 (fun H locs hP hD hS => ?_)
  have hP : va_P D vwCl (RqW q k (upd ow tn (nI id)) (upd wr tn w) fi sz dl wt bl sh so tn sn un) H := hP
  have hD : va_D A (RqW q k (upd ow tn (nI id)) (upd wr tn w) fi sz dl wt bl sh so tn sn un) := hD
  refine lv_aload_n hx hb dX1_add_22 rfl (lv_at hl 1 rfl) ?_
  refine va_get (D := D) (ci := 1) (v := .ref (q 3)) (C := RX1) (T := TX1) (N := 12) hx hb hts iwX1_add_X1 hown hK hP 0 rfl rfl 2 (by decide) (hts (Cond.fieldLink RX1 19 "ShareDisk$Requests" "first" "[I") mwX1_add_3) (fun _ h9 => h9) rfl dX1_add_23 ?_
  refine lv_iload hx hb dX1_add_26 (lv_at hl 0 rfl) ?_
  refine lv_iload_n hx hb dX1_add_28 rfl (lv_at hl 4 rfl) ?_
  refine sI hx hb hK hP hD hS 3 1 rfl rfl (ix5 htn) dX1_add_29 (fun H locs hP hD hS => ?_)
  have hP : va_P D vwCl (RqW q k (upd ow tn (nI id)) (upd wr tn w) (upd fi tn x) sz dl wt bl sh so tn sn un) H := hP
  have hD : va_D A (RqW q k (upd ow tn (nI id)) (upd wr tn w) (upd fi tn x) sz dl wt bl sh so tn sn un) := hD
  refine lv_aload_n hx hb dX1_add_30 rfl (lv_at hl 1 rfl) ?_
  refine va_get (D := D) (ci := 1) (v := .ref (q 4)) (C := RX1) (T := TX1) (N := 12) hx hb hts iwX1_add_X1 hown hK hP 0 rfl rfl 3 (by decide) (hts (Cond.fieldLink RX1 22 "ShareDisk$Requests" "size" "[I") mwX1_add_4) (fun _ h9 => h9) rfl dX1_add_31 ?_
  refine lv_iload hx hb dX1_add_34 (lv_at hl 0 rfl) ?_
  refine lv_iload hx hb dX1_add_36 (lv_at hl 5 rfl) ?_
  refine sI hx hb hK hP hD hS 4 1 rfl rfl (ix5 htn) dX1_add_38 (fun H locs hP hD hS => ?_)
  have hP : va_P D vwCl (RqW q k (upd ow tn (nI id)) (upd wr tn w) (upd fi tn x) (upd sz tn y) dl wt bl sh so tn sn un) H := hP
  have hD : va_D A (RqW q k (upd ow tn (nI id)) (upd wr tn w) (upd fi tn x) (upd sz tn y) dl wt bl sh so tn sn un) := hD
  refine lv_aload_n hx hb dX1_add_39 rfl (lv_at hl 1 rfl) ?_
  refine va_get (D := D) (ci := 1) (v := .ref (q 5)) (C := RX1) (T := TX1) (N := 12) hx hb hts iwX1_add_X1 hown hK hP 0 rfl rfl 4 (by decide) (hts (Cond.fieldLink RX1 25 "ShareDisk$Requests" "deadline" "[J") mwX1_add_5) (fun _ h9 => h9) rfl dX1_add_40 ?_
  refine lv_iload hx hb dX1_add_43 (lv_at hl 0 rfl) ?_
  refine lv_lload hx hb dX1_add_45 (lv_at hl 6 rfl) ?_
  refine sJ hx hb hK hP hD hS 5 2 rfl rfl (ix5 htn) dX1_add_47 (fun H locs hP hD hS => ?_)
  have hP : va_P D vwCl (RqW q k (upd ow tn (nI id)) (upd wr tn w) (upd fi tn x) (upd sz tn y) (vp_updL dl tn z) wt bl sh so tn sn un) H := hP
  have hD : va_D A (RqW q k (upd ow tn (nI id)) (upd wr tn w) (upd fi tn x) (upd sz tn y) (vp_updL dl tn z) wt bl sh so tn sn un) := hD
  refine lv_aload_n hx hb dX1_add_48 rfl (lv_at hl 1 rfl) ?_
  refine va_get (D := D) (ci := 1) (v := .ref (q 6)) (C := RX1) (T := TX1) (N := 12) hx hb hts iwX1_add_X1 hown hK hP 0 rfl rfl 5 (by decide) (hts (Cond.fieldLink RX1 29 "ShareDisk$Requests" "waits" "[Z") mwX1_add_6) (fun _ h9 => h9) rfl dX1_add_49 ?_
  refine lv_iload hx hb dX1_add_52 (lv_at hl 0 rfl) ?_
  refine lv_iconst (v := nI 1) hx hb dX1_add_54 (by decide) ?_
  refine sZ hx hb hK hP hD hS 6 0 rfl rfl (ix5 htn) (Or.inr rfl) dX1_add_55 (fun H locs hP hD hS => ?_)
  have hP : va_P D vwCl (RqW q k (upd ow tn (nI id)) (upd wr tn w) (upd fi tn x) (upd sz tn y) (vp_updL dl tn z) (upd wt tn (nI 1)) bl sh so tn sn un) H := hP
  have hD : va_D A (RqW q k (upd ow tn (nI id)) (upd wr tn w) (upd fi tn x) (upd sz tn y) (vp_updL dl tn z) (upd wt tn (nI 1)) bl sh so tn sn un) := hD
  refine lv_iconst (v := nI 0) hx hb dX1_add_56 (by decide) ?_
  refine lv_istore (lv' := [(8, .int (nI 0)), (7, .int (nI tn)), (0, .ref (q 0)), (1, .int (nI id)), (2, .int w), (3, .int x), (4, .int y), (5, .long z)]) hx hb dX1_add_57 hl (by decide) rfl (fun ls hl => ?_)
  have loop59 : ∀ (n : Nat) (i : Nat) (B : Nat → Int32), (i ≤ tn) → (B = adB (upd ow tn (nI id)) (upd wr tn w) (upd fi tn x) (upd sz tn y) (upd wt tn (nI 1)) bl tn i) → tn - i < n → ∀ (H : Heap) (locs : List Loc) (ls : Array Slot), va_P D vwCl (RqW q k (upd ow tn (nI id)) (upd wr tn w) (upd fi tn x) (upd sz tn y) (vp_updL dl tn z) (upd wt tn (nI 1)) B sh so tn sn un) H → va_D A (RqW q k (upd ow tn (nI id)) (upd wr tn w) (upd fi tn x) (upd sz tn y) (vp_updL dl tn z) (upd wt tn (nI 1)) B sh so tn sn un) → va_S A s.heap H locs → lv_has ls 9 [(0, .ref (q 0)), (1, .int (nI id)), (2, .int w), (3, .int x), (4, .int y), (5, .long z), (7, .int (nI tn)), (8, .int (nI i))] → W p l e ({ frames := 1, cells := 0, slots := 0, locals := 22 } : Room) s m [.ref (q 0), .int (nI id), .int w, .int x, .int y, .long z].toArray below meth c H locs 0 0 (MQ below (QI D k (fun r9 w9 => r9 = (nI tn) ∧ w9 = RqW q k (upd ow tn (nI id)) (upd wr tn w) (upd fi tn x) (upd sz tn y) (vp_updL dl tn z) (upd wt tn (nI 1)) (adB (upd ow tn (nI id)) (upd wr tn w) (upd fi tn x) (upd sz tn y) (upd wt tn (nI 1)) bl tn tn) sh so (tn + 1) sn un) A) [.ref (q 0), .int (nI id), .int w, .int x, .int y, .long z].toArray s 0 0 A) (F0 m 59 ls []) := by
    intro n
    induction n with
    | zero => intro i B hi hB hn9; exact absurd hn9 (Nat.not_lt_zero _)
    | succ n ih =>
      intro i B hi hB hn9 H locs ls hP hD hS hl
      refine lv_iload hx hb dX1_add_59 (lv_at hl 7 rfl) ?_
      refine lv_iload hx hb dX1_add_61 (lv_at hl 6 rfl) ?_
      refine lv_icmp_ge (tgt := 104) hx hb dX1_add_63 (by decide) (fun c1 => ?_) (fun c1 => ?_)
      · have hi8 : i = tn := lp_ge (by omega) hi c1
        refine lv_aload_n hx hb dX1_add_104 rfl (lv_at hl 0 rfl) ?_
        refine lv_dup hx hb dX1_add_105 rfl ?_
        refine va_get (D := D) (ci := 1) (v := .int (nI tn)) (C := RX1) (T := TX1) (N := 12) hx hb hts iwX1_add_X1 hown hK hP 0 rfl rfl 9 (by decide) (hts (Cond.fieldLink RX1 41 "ShareDisk$Requests" "tickets" "I") mwX1_add_0) (fun _ h9 => h9) rfl dX1_add_106 ?_
        refine lv_iconst (v := nI 1) hx hb dX1_add_109 (by decide) ?_
        refine nadd hx hb dX1_add_110 ?_
        refine va_put (D := D) (ci := 1) (v := .int (nI (tn + 1))) (ty := .int) (C := RX1) (T := TX1) (N := 12) hx hb hts iwX1_add_X1 tyX1 tyX1_ok nmX1 hown hK hP hD hS 0 rfl rfl 9 (by decide) (hts (Cond.fieldLink RX1 41 "ShareDisk$Requests" "tickets" "I") mwX1_add_0) (fun _ h9 => h9) rfl (by decide +kernel) rfl rfl (Nat.le_of_ble_eq_true rfl) dX1_add_111 (fun H locs hP hD hS => ?_)
        have hP : va_P D vwCl (RqW q k (upd ow tn (nI id)) (upd wr tn w) (upd fi tn x) (upd sz tn y) (vp_updL dl tn z) (upd wt tn (nI 1)) B sh so (tn + 1) sn un) H := hP
        have hD : va_D A (RqW q k (upd ow tn (nI id)) (upd wr tn w) (upd fi tn x) (upd sz tn y) (vp_updL dl tn z) (upd wt tn (nI 1)) B sh so (tn + 1) sn un) := hD
        refine lv_iload hx hb dX1_add_114 (lv_at hl 6 rfl) ?_
        exact retI hc dX1_add_116 hK hP hD hS (⟨rfl, by rw [hB, hi8]⟩) (Nat.le_of_ble_eq_true rfl) (Nat.le_of_ble_eq_true rfl)
      · have hi8 : i < tn := lp_lt (by omega) hi c1
        refine lv_aload_n hx hb dX1_add_66 rfl (lv_at hl 0 rfl) ?_
        refine va_get (D := D) (ci := 1) (v := .ref (q 6)) (C := RX1) (T := TX1) (N := 12) hx hb hts iwX1_add_X1 hown hK hP 0 rfl rfl 5 (by decide) (hts (Cond.fieldLink RX1 29 "ShareDisk$Requests" "waits" "[Z") mwX1_add_6) (fun _ h9 => h9) rfl dX1_add_67 ?_
        refine lv_iload hx hb dX1_add_70 (lv_at hl 7 rfl) ?_
        refine aZ hx hb hK hP 6 0 rfl rfl (ix5 (by omega)) dX1_add_72 ?_
        refine lv_if_eq (tgt := 98) hx hb dX1_add_73 (by decide) (fun c2 => ?_) (fun c2 => ?_)
        · refine lv_iinc (v := nI (i + 1)) (lv' := [(8, .int (nI (i + 1))), (0, .ref (q 0)), (1, .int (nI id)), (2, .int w), (3, .int x), (4, .int y), (5, .long z), (7, .int (nI tn))]) hx hb dX1_add_98 hl (k := 7) rfl (by rw [show Int32.ofInt 1 = nI 1 by decide, nI_add]) (by decide) rfl (fun ls hl => ?_)
          refine lv_goto (tgt := 59) hx hb dX1_add_101 (by decide) ?_
          exact ih (i + 1) _ (by omega) (by rw [hB, adB]; rw [if_pos c2]) (by omega) _ _ _ hP hD hS (lv_sub hl [1, 2, 3, 4, 5, 6, 7, 0] rfl)
        · refine lv_aload_n hx hb dX1_add_76 rfl (lv_at hl 0 rfl) ?_
          refine lv_iload hx hb dX1_add_77 (lv_at hl 7 rfl) ?_
          refine lv_iload hx hb dX1_add_79 (lv_at hl 6 rfl) ?_
          refine goVI0 hc (kX1_mustKeepOrder l D k q H.size (upd ow tn (nI id)) (upd wr tn w) (upd fi tn x) (upd sz tn y) (vp_updL dl tn z) (upd wt tn (nI 1)) B sh so tn sn un i tn (by first | assumption | omega) (by first | assumption | omega)) (cwV 2 hts gX1_add_X1_mustKeepOrder rfl rfl rfl (by decide +kernel) ⟨(Nat.le_of_ble_eq_true rfl), (Nat.le_of_ble_eq_true rfl)⟩) hP hD hK hS hA (ci := 1) (q0 := 0) rfl rfl rfl hl.1 rfl (Nat.le_of_ble_eq_true rfl) dX1_add_81 (Nat.le_of_ble_eq_true rfl) (Nat.le_of_ble_eq_true rfl) (fun r9 B9 H locs hq hP hD hS => ?_)
          obtain ⟨hr9, rfl⟩ := hq
          subst hr9
          have hP : va_P D vwCl (RqW q k (upd ow tn (nI id)) (upd wr tn w) (upd fi tn x) (upd sz tn y) (vp_updL dl tn z) (upd wt tn (nI 1)) B sh so tn sn un) H := hP
          have hD : va_D A (RqW q k (upd ow tn (nI id)) (upd wr tn w) (upd fi tn x) (upd sz tn y) (vp_updL dl tn z) (upd wt tn (nI 1)) B sh so tn sn un) := hD
          refine lv_if_eq (tgt := 98) hx hb dX1_add_84 (by decide) (fun c3 => ?_) (fun c3 => ?_)
          · refine lv_iinc (v := nI (i + 1)) (lv' := [(8, .int (nI (i + 1))), (0, .ref (q 0)), (1, .int (nI id)), (2, .int w), (3, .int x), (4, .int y), (5, .long z), (7, .int (nI tn))]) hx hb dX1_add_98 hl (k := 7) rfl (by rw [show Int32.ofInt 1 = nI 1 by decide, nI_add]) (by decide) rfl (fun ls hl => ?_)
            refine lv_goto (tgt := 59) hx hb dX1_add_101 (by decide) ?_
            exact ih (i + 1) _ (by omega) (by rw [hB, adB]; rw [if_neg c2, if_neg (bI_0 c3)]) (by omega) _ _ _ hP hD hS (lv_sub hl [1, 2, 3, 4, 5, 6, 7, 0] rfl)
          · refine lv_aload_n hx hb dX1_add_87 rfl (lv_at hl 0 rfl) ?_
            refine va_get (D := D) (ci := 1) (v := .ref (q 7)) (C := RX1) (T := TX1) (N := 12) hx hb hts iwX1_add_X1 hown hK hP 0 rfl rfl 6 (by decide) (hts (Cond.fieldLink RX1 32 "ShareDisk$Requests" "blockers" "[I") mwX1_add_7) (fun _ h9 => h9) rfl dX1_add_88 ?_
            refine lv_iload hx hb dX1_add_91 (lv_at hl 6 rfl) ?_
            refine lv_dup2_11 hx hb dX1_add_93 rfl rfl ?_
            refine aI hx hb hK hP 7 1 rfl rfl (ix5 htn) dX1_add_94 ?_
            refine lv_iconst (v := nI 1) hx hb dX1_add_95 (by decide) ?_
            refine lv_iadd hx hb dX1_add_96 ?_
            refine sI hx hb hK hP hD hS 7 1 rfl rfl (ix5 htn) dX1_add_97 (fun H locs hP hD hS => ?_)
            have hP : va_P D vwCl (RqW q k (upd ow tn (nI id)) (upd wr tn w) (upd fi tn x) (upd sz tn y) (vp_updL dl tn z) (upd wt tn (nI 1)) (upd B tn ((B tn) + (nI 1))) sh so tn sn un) H := hP
            have hD : va_D A (RqW q k (upd ow tn (nI id)) (upd wr tn w) (upd fi tn x) (upd sz tn y) (vp_updL dl tn z) (upd wt tn (nI 1)) (upd B tn ((B tn) + (nI 1))) sh so tn sn un) := hD
            refine lv_iinc (v := nI (i + 1)) (lv' := [(8, .int (nI (i + 1))), (0, .ref (q 0)), (1, .int (nI id)), (2, .int w), (3, .int x), (4, .int y), (5, .long z), (7, .int (nI tn))]) hx hb dX1_add_98 hl (k := 7) rfl (by rw [show Int32.ofInt 1 = nI 1 by decide, nI_add]) (by decide) rfl (fun ls hl => ?_)
            refine lv_goto (tgt := 59) hx hb dX1_add_101 (by decide) ?_
            exact ih (i + 1) _ (by omega) (by rw [hB, adB]; rw [if_neg c2, if_pos (bI_1 c3)]) (by omega) _ _ _ hP hD hS (lv_sub hl [1, 2, 3, 4, 5, 6, 7, 0] rfl)
  exact loop59 _ 0 bl (by omega) rfl (Nat.lt_succ_self _) _ _ _ hP hD hS (lv_sub hl [2, 3, 4, 5, 6, 7, 1, 0] rfl)
theorem mwX1_markServed_0 : Cond.fieldLink RX1 29 "ShareDisk$Requests" "waits" "[Z" ∈ wsX1_markServed := by decide +kernel
theorem mwX1_markServed_1 : Cond.fieldLink RX1 35 "ShareDisk$Requests" "servedHow" "[I" ∈ wsX1_markServed := by decide +kernel
theorem mwX1_markServed_2 : Cond.fieldLink RX1 38 "ShareDisk$Requests" "servedOrder" "[I" ∈ wsX1_markServed := by decide +kernel
theorem mwX1_markServed_3 : Cond.fieldLink RX1 45 "ShareDisk$Requests" "served" "I" ∈ wsX1_markServed := by decide +kernel
theorem mwX1_markServed_4 : Cond.fieldLink RX1 41 "ShareDisk$Requests" "tickets" "I" ∈ wsX1_markServed := by decide +kernel
theorem mwX1_markServed_5 : Cond.fieldLink RX1 32 "ShareDisk$Requests" "blockers" "[I" ∈ wsX1_markServed := by decide +kernel
theorem mwX1_markServed_6 : Cond.fieldLink RX1 48 "ShareDisk$Requests" "urgent" "I" ∈ wsX1_markServed := by decide +kernel
theorem iwX1_markServed_X1 : ∀ w ∈ wsX10, w ∈ wsX1_markServed := by decide +kernel
set_option maxHeartbeats 4000000 in
set_option maxRecDepth 100000 in
theorem kX1_markServed (l : Launch) (D : va_G) (k : Nat → ClassId) (q : Nat → Nat) (zz : Nat) (ow wr fi sz : Nat → Int32) (dl : Nat → Int64) (wt bl sh so : Nat → Int32) (tn sn un : Nat) (t : Nat) (h : Int32) (ht : t < tn) (htn : tn ≤ 500) (hsn : sn < 500) : MV l yX1_markServed wsX1_markServed ({ frames := 1, cells := 0, slots := 0, locals := 22 } : Room) D k (RqW q k ow wr fi sz dl wt bl sh so tn sn un) zz [.ref (q 0), .int (nI t), .int h] (fun w9 => w9 = RqW q k ow wr fi sz dl (upd wt t (nI 0)) (msB ow wr fi sz bl t tn) (upd sh t h) (upd so sn (nI t)) tn (sn + 1) (if h = nI 3 then un + 1 else un)) 0 0 := by
  refine bodyOf (Qc := fun A => QV D k (fun w9 => w9 = RqW q k ow wr fi sz dl (upd wt t (nI 0)) (msB ow wr fi sz bl t tn) (upd sh t h) (upd so sn (nI t)) tn (sn + 1) (if h = nI 3 then un + 1 else un)) A) (cc := cX1_markServed) (maxL := 4) (ret := none) (by decide) rfl (Nat.le_of_ble_eq_true rfl) ?_
  intro p e s m below meth c A ls hc hA hK hP hD hS hl
  obtain ⟨hx, hb, hml, hr, hts, hown, hlocks, hin⟩ := (show _ from hc)
  have hl : lv_has ls 4 [(0, .ref (q 0)), (1, .int (nI t)), (2, .int h)] := hl
  refine lv_aload_n hx hb dX1_markServed_0 rfl (lv_at hl 0 rfl) ?_
  refine va_get (D := D) (ci := 1) (v := .ref (q 6)) (C := RX1) (T := TX1) (N := 12) hx hb hts iwX1_markServed_X1 hown hK hP 0 rfl rfl 5 (by decide) (hts (Cond.fieldLink RX1 29 "ShareDisk$Requests" "waits" "[Z") mwX1_markServed_0) (fun _ h9 => h9) rfl dX1_markServed_1 ?_
  refine lv_iload_n hx hb dX1_markServed_4 rfl (lv_at hl 1 rfl) ?_
  refine lv_iconst (v := nI 0) hx hb dX1_markServed_5 (by decide) ?_
  refine sZ hx hb hK hP hD hS 6 0 rfl rfl (ix5 (by omega)) (Or.inl rfl) dX1_markServed_6 (fun H locs hP hD hS => ?_)
  have hP : va_P D vwCl (RqW q k ow wr fi sz dl (upd wt t (nI 0)) bl sh so tn sn un) H := hP
  have hD : va_D A (RqW q k ow wr fi sz dl (upd wt t (nI 0)) bl sh so tn sn un) := hD
  refine lv_aload_n hx hb dX1_markServed_7 rfl (lv_at hl 0 rfl) ?_
  refine va_get (D := D) (ci := 1) (v := .ref (q 8)) (C := RX1) (T := TX1) (N := 12) hx hb hts iwX1_markServed_X1 hown hK hP 0 rfl rfl 7 (by decide) (hts (Cond.fieldLink RX1 35 "ShareDisk$Requests" "servedHow" "[I") mwX1_markServed_1) (fun _ h9 => h9) rfl dX1_markServed_8 ?_
  refine lv_iload_n hx hb dX1_markServed_11 rfl (lv_at hl 1 rfl) ?_
  refine lv_iload_n hx hb dX1_markServed_12 rfl (lv_at hl 2 rfl) ?_
  refine sI hx hb hK hP hD hS 8 1 rfl rfl (ix5 (by omega)) dX1_markServed_13 (fun H locs hP hD hS => ?_)
  have hP : va_P D vwCl (RqW q k ow wr fi sz dl (upd wt t (nI 0)) bl (upd sh t h) so tn sn un) H := hP
  have hD : va_D A (RqW q k ow wr fi sz dl (upd wt t (nI 0)) bl (upd sh t h) so tn sn un) := hD
  refine lv_aload_n hx hb dX1_markServed_14 rfl (lv_at hl 0 rfl) ?_
  refine va_get (D := D) (ci := 1) (v := .ref (q 9)) (C := RX1) (T := TX1) (N := 12) hx hb hts iwX1_markServed_X1 hown hK hP 0 rfl rfl 8 (by decide) (hts (Cond.fieldLink RX1 38 "ShareDisk$Requests" "servedOrder" "[I") mwX1_markServed_2) (fun _ h9 => h9) rfl dX1_markServed_15 ?_
  refine lv_aload_n hx hb dX1_markServed_18 rfl (lv_at hl 0 rfl) ?_
  refine va_get (D := D) (ci := 1) (v := .int (nI sn)) (C := RX1) (T := TX1) (N := 12) hx hb hts iwX1_markServed_X1 hown hK hP 0 rfl rfl 10 (by decide) (hts (Cond.fieldLink RX1 45 "ShareDisk$Requests" "served" "I") mwX1_markServed_3) (fun _ h9 => h9) rfl dX1_markServed_19 ?_
  refine lv_iload_n hx hb dX1_markServed_22 rfl (lv_at hl 1 rfl) ?_
  refine sI hx hb hK hP hD hS 9 1 rfl rfl (ix5 hsn) dX1_markServed_23 (fun H locs hP hD hS => ?_)
  have hP : va_P D vwCl (RqW q k ow wr fi sz dl (upd wt t (nI 0)) bl (upd sh t h) (upd so sn (nI t)) tn sn un) H := hP
  have hD : va_D A (RqW q k ow wr fi sz dl (upd wt t (nI 0)) bl (upd sh t h) (upd so sn (nI t)) tn sn un) := hD
  refine lv_aload_n hx hb dX1_markServed_24 rfl (lv_at hl 0 rfl) ?_
  refine lv_dup hx hb dX1_markServed_25 rfl ?_
  refine va_get (D := D) (ci := 1) (v := .int (nI sn)) (C := RX1) (T := TX1) (N := 12) hx hb hts iwX1_markServed_X1 hown hK hP 0 rfl rfl 10 (by decide) (hts (Cond.fieldLink RX1 45 "ShareDisk$Requests" "served" "I") mwX1_markServed_3) (fun _ h9 => h9) rfl dX1_markServed_26 ?_
  refine lv_iconst (v := nI 1) hx hb dX1_markServed_29 (by decide) ?_
  refine nadd hx hb dX1_markServed_30 ?_
  refine va_put (D := D) (ci := 1) (v := .int (nI (sn + 1))) (ty := .int) (C := RX1) (T := TX1) (N := 12) hx hb hts iwX1_markServed_X1 tyX1 tyX1_ok nmX1 hown hK hP hD hS 0 rfl rfl 10 (by decide) (hts (Cond.fieldLink RX1 45 "ShareDisk$Requests" "served" "I") mwX1_markServed_3) (fun _ h9 => h9) rfl (by decide +kernel) rfl rfl (Nat.le_of_ble_eq_true rfl) dX1_markServed_31 (fun H locs hP hD hS => ?_)
  have hP : va_P D vwCl (RqW q k ow wr fi sz dl (upd wt t (nI 0)) bl (upd sh t h) (upd so sn (nI t)) tn (sn + 1) un) H := hP
  have hD : va_D A (RqW q k ow wr fi sz dl (upd wt t (nI 0)) bl (upd sh t h) (upd so sn (nI t)) tn (sn + 1) un) := hD
  have cut49 : ∀ (u : Nat) (H : Heap) (locs : List Loc) (ls : Array Slot), (u = if h = nI 3 then un + 1 else un) → va_P D vwCl (RqW q k ow wr fi sz dl (upd wt t (nI 0)) bl (upd sh t h) (upd so sn (nI t)) tn (sn + 1) u) H → va_D A (RqW q k ow wr fi sz dl (upd wt t (nI 0)) bl (upd sh t h) (upd so sn (nI t)) tn (sn + 1) u) → va_S A s.heap H locs → lv_has ls 4 [(0, .ref (q 0)), (1, .int (nI t)), (2, .int h)] → W p l e ({ frames := 1, cells := 0, slots := 0, locals := 22 } : Room) s m [.ref (q 0), .int (nI t), .int h].toArray below meth c H locs 0 0 (MQ below (QV D k (fun w9 => w9 = RqW q k ow wr fi sz dl (upd wt t (nI 0)) (msB ow wr fi sz bl t tn) (upd sh t h) (upd so sn (nI t)) tn (sn + 1) (if h = nI 3 then un + 1 else un)) A) [.ref (q 0), .int (nI t), .int h].toArray s 0 0 A) (F0 m 49 ls []) := by
    intro u H locs ls hu hP hD hS hl
    refine lv_iload_n hx hb dX1_markServed_49 rfl (lv_at hl 1 rfl) ?_
    refine lv_iconst (v := nI 1) hx hb dX1_markServed_50 (by decide) ?_
    refine nadd hx hb dX1_markServed_51 ?_
    refine lv_istore_n (lv' := [(3, .int (nI (t + 1))), (0, .ref (q 0)), (1, .int (nI t)), (2, .int h)]) hx hb dX1_markServed_52 rfl hl (by decide) rfl (fun ls hl => ?_)
    have loop53 : ∀ (n : Nat) (i : Nat) (B : Nat → Int32), (t < i) → (i ≤ tn) → (B = msB ow wr fi sz bl t i) → tn - i < n → ∀ (H : Heap) (locs : List Loc) (ls : Array Slot), va_P D vwCl (RqW q k ow wr fi sz dl (upd wt t (nI 0)) B (upd sh t h) (upd so sn (nI t)) tn (sn + 1) u) H → va_D A (RqW q k ow wr fi sz dl (upd wt t (nI 0)) B (upd sh t h) (upd so sn (nI t)) tn (sn + 1) u) → va_S A s.heap H locs → lv_has ls 4 [(0, .ref (q 0)), (1, .int (nI t)), (2, .int h), (3, .int (nI i))] → W p l e ({ frames := 1, cells := 0, slots := 0, locals := 22 } : Room) s m [.ref (q 0), .int (nI t), .int h].toArray below meth c H locs 0 0 (MQ below (QV D k (fun w9 => w9 = RqW q k ow wr fi sz dl (upd wt t (nI 0)) (msB ow wr fi sz bl t tn) (upd sh t h) (upd so sn (nI t)) tn (sn + 1) (if h = nI 3 then un + 1 else un)) A) [.ref (q 0), .int (nI t), .int h].toArray s 0 0 A) (F0 m 53 ls []) := by
      intro n
      induction n with
      | zero => intro i B hti hi hB hn9; exact absurd hn9 (Nat.not_lt_zero _)
      | succ n ih =>
        intro i B hti hi hB hn9 H locs ls hP hD hS hl
        refine lv_iload_n hx hb dX1_markServed_53 rfl (lv_at hl 3 rfl) ?_
        refine lv_aload_n hx hb dX1_markServed_54 rfl (lv_at hl 0 rfl) ?_
        refine va_get (D := D) (ci := 1) (v := .int (nI tn)) (C := RX1) (T := TX1) (N := 12) hx hb hts iwX1_markServed_X1 hown hK hP 0 rfl rfl 9 (by decide) (hts (Cond.fieldLink RX1 41 "ShareDisk$Requests" "tickets" "I") mwX1_markServed_4) (fun _ h9 => h9) rfl dX1_markServed_55 ?_
        refine lv_icmp_ge (tgt := 86) hx hb dX1_markServed_58 (by decide) (fun c1 => ?_) (fun c1 => ?_)
        · have hi8 : i = tn := lp_ge (by omega) hi c1
          exact retV hc dX1_markServed_86 hK hP hD hS (by rw [hB, hi8, hu]) (Nat.le_of_ble_eq_true rfl) (Nat.le_of_ble_eq_true rfl)
        · have hi8 : i < tn := lp_lt (by omega) hi c1
          refine lv_aload_n hx hb dX1_markServed_61 rfl (lv_at hl 0 rfl) ?_
          refine lv_iload_n hx hb dX1_markServed_62 rfl (lv_at hl 1 rfl) ?_
          refine lv_iload_n hx hb dX1_markServed_63 rfl (lv_at hl 3 rfl) ?_
          refine goVI0 hc (kX1_mustKeepOrder l D k q H.size ow wr fi sz dl (upd wt t (nI 0)) B (upd sh t h) (upd so sn (nI t)) tn (sn + 1) u t i (by first | assumption | omega) (by first | assumption | omega)) (cwV 2 hts gX1_markServed_X1_mustKeepOrder rfl rfl rfl (by decide +kernel) ⟨(Nat.le_of_ble_eq_true rfl), (Nat.le_of_ble_eq_true rfl)⟩) hP hD hK hS hA (ci := 1) (q0 := 0) rfl rfl rfl hl.1 rfl (Nat.le_of_ble_eq_true rfl) dX1_markServed_64 (Nat.le_of_ble_eq_true rfl) (Nat.le_of_ble_eq_true rfl) (fun r9 B9 H locs hq hP hD hS => ?_)
          obtain ⟨hr9, rfl⟩ := hq
          subst hr9
          have hP : va_P D vwCl (RqW q k ow wr fi sz dl (upd wt t (nI 0)) B (upd sh t h) (upd so sn (nI t)) tn (sn + 1) u) H := hP
          have hD : va_D A (RqW q k ow wr fi sz dl (upd wt t (nI 0)) B (upd sh t h) (upd so sn (nI t)) tn (sn + 1) u) := hD
          refine lv_if_eq (tgt := 80) hx hb dX1_markServed_67 (by decide) (fun c2 => ?_) (fun c2 => ?_)
          · refine lv_iinc (v := nI (i + 1)) (lv' := [(3, .int (nI (i + 1))), (0, .ref (q 0)), (1, .int (nI t)), (2, .int h)]) hx hb dX1_markServed_80 hl (k := 3) rfl (by rw [show Int32.ofInt 1 = nI 1 by decide, nI_add]) (by decide) rfl (fun ls hl => ?_)
            refine lv_goto (tgt := 53) hx hb dX1_markServed_83 (by decide) ?_
            exact ih (i + 1) _ (by omega) (by omega) (by rw [hB, msB, if_pos hti]; rw [if_neg (bI_0 c2)]) (by omega) _ _ _ hP hD hS (lv_sub hl [1, 2, 3, 0] rfl)
          · refine lv_aload_n hx hb dX1_markServed_70 rfl (lv_at hl 0 rfl) ?_
            refine va_get (D := D) (ci := 1) (v := .ref (q 7)) (C := RX1) (T := TX1) (N := 12) hx hb hts iwX1_markServed_X1 hown hK hP 0 rfl rfl 6 (by decide) (hts (Cond.fieldLink RX1 32 "ShareDisk$Requests" "blockers" "[I") mwX1_markServed_5) (fun _ h9 => h9) rfl dX1_markServed_71 ?_
            refine lv_iload_n hx hb dX1_markServed_74 rfl (lv_at hl 3 rfl) ?_
            refine lv_dup2_11 hx hb dX1_markServed_75 rfl rfl ?_
            refine aI hx hb hK hP 7 1 rfl rfl (ix5 (by omega)) dX1_markServed_76 ?_
            refine lv_iconst (v := nI 1) hx hb dX1_markServed_77 (by decide) ?_
            refine lv_isub hx hb dX1_markServed_78 ?_
            refine sI hx hb hK hP hD hS 7 1 rfl rfl (ix5 (by omega)) dX1_markServed_79 (fun H locs hP hD hS => ?_)
            have hP : va_P D vwCl (RqW q k ow wr fi sz dl (upd wt t (nI 0)) (upd B i ((B i) - (nI 1))) (upd sh t h) (upd so sn (nI t)) tn (sn + 1) u) H := hP
            have hD : va_D A (RqW q k ow wr fi sz dl (upd wt t (nI 0)) (upd B i ((B i) - (nI 1))) (upd sh t h) (upd so sn (nI t)) tn (sn + 1) u) := hD
            refine lv_iinc (v := nI (i + 1)) (lv' := [(3, .int (nI (i + 1))), (0, .ref (q 0)), (1, .int (nI t)), (2, .int h)]) hx hb dX1_markServed_80 hl (k := 3) rfl (by rw [show Int32.ofInt 1 = nI 1 by decide, nI_add]) (by decide) rfl (fun ls hl => ?_)
            refine lv_goto (tgt := 53) hx hb dX1_markServed_83 (by decide) ?_
            exact ih (i + 1) _ (by omega) (by omega) (by rw [hB, msB, if_pos hti]; rw [if_pos (bI_1 c2)]) (by omega) _ _ _ hP hD hS (lv_sub hl [1, 2, 3, 0] rfl)
    exact loop53 _ (t + 1) bl (by omega) (by omega) (msB_lo _ (Nat.le_refl _)).symm (Nat.lt_succ_self _) _ _ _ hP hD hS (lv_sub hl [1, 2, 3, 0] rfl)
  refine lv_iload_n hx hb dX1_markServed_34 rfl (lv_at hl 2 rfl) ?_
  refine lv_iconst (v := nI 3) hx hb dX1_markServed_35 (by decide) ?_
  refine lv_icmp_ne (tgt := 49) hx hb dX1_markServed_36 (by decide) (fun c3 => ?_) (fun c3 => ?_)
  · exact cut49 (un) _ _ _ (by simp [c3]) hP hD hS (lv_sub hl [0, 1, 2] rfl)
  · refine lv_aload_n hx hb dX1_markServed_39 rfl (lv_at hl 0 rfl) ?_
    refine lv_dup hx hb dX1_markServed_40 rfl ?_
    refine va_get (D := D) (ci := 1) (v := .int (nI un)) (C := RX1) (T := TX1) (N := 12) hx hb hts iwX1_markServed_X1 hown hK hP 0 rfl rfl 11 (by decide) (hts (Cond.fieldLink RX1 48 "ShareDisk$Requests" "urgent" "I") mwX1_markServed_6) (fun _ h9 => h9) rfl dX1_markServed_41 ?_
    refine lv_iconst (v := nI 1) hx hb dX1_markServed_44 (by decide) ?_
    refine nadd hx hb dX1_markServed_45 ?_
    refine va_put (D := D) (ci := 1) (v := .int (nI (un + 1))) (ty := .int) (C := RX1) (T := TX1) (N := 12) hx hb hts iwX1_markServed_X1 tyX1 tyX1_ok nmX1 hown hK hP hD hS 0 rfl rfl 11 (by decide) (hts (Cond.fieldLink RX1 48 "ShareDisk$Requests" "urgent" "I") mwX1_markServed_6) (fun _ h9 => h9) rfl (by decide +kernel) rfl rfl (Nat.le_of_ble_eq_true rfl) dX1_markServed_46 (fun H locs hP hD hS => ?_)
    have hP : va_P D vwCl (RqW q k ow wr fi sz dl (upd wt t (nI 0)) bl (upd sh t h) (upd so sn (nI t)) tn (sn + 1) (un + 1)) H := hP
    have hD : va_D A (RqW q k ow wr fi sz dl (upd wt t (nI 0)) bl (upd sh t h) (upd so sn (nI t)) tn (sn + 1) (un + 1)) := hD
    exact cut49 (un + 1) _ _ _ (by simp [c3]) hP hD hS (lv_sub hl [0, 1, 2] rfl)
theorem mwX1_mostUrgent_0 : Cond.fieldLink RX1 41 "ShareDisk$Requests" "tickets" "I" ∈ wsX1_mostUrgent := by decide +kernel
theorem mwX1_mostUrgent_1 : Cond.fieldLink RX1 25 "ShareDisk$Requests" "deadline" "[J" ∈ wsX1_mostUrgent := by decide +kernel
theorem iwX1_mostUrgent_X1 : ∀ w ∈ wsX10, w ∈ wsX1_mostUrgent := by decide +kernel
set_option maxHeartbeats 4000000 in
set_option maxRecDepth 100000 in
theorem kX1_mostUrgent (l : Launch) (D : va_G) (k : Nat → ClassId) (q : Nat → Nat) (zz : Nat) (ow wr fi sz : Nat → Int32) (dl : Nat → Int64) (wt bl sh so : Nat → Int32) (tn sn un : Nat) (x : Int64) (htn : tn ≤ 500) : MI l yX1_mostUrgent wsX1_mostUrgent ({ frames := 1, cells := 0, slots := 0, locals := 21 } : Room) D k (RqW q k ow wr fi sz dl wt bl sh so tn sn un) zz [.ref (q 0), .long x] (fun r9 w9 => r9 = (oI (muF wt bl sh dl x tn)) ∧ w9 = RqW q k ow wr fi sz dl wt bl sh so tn sn un) 0 0 := by
  refine bodyOf (Qc := fun A => QI D k (fun r9 w9 => r9 = (oI (muF wt bl sh dl x tn)) ∧ w9 = RqW q k ow wr fi sz dl wt bl sh so tn sn un) A) (cc := cX1_mostUrgent) (maxL := 5) (ret := (some .int)) (by decide) rfl (Nat.le_of_ble_eq_true rfl) ?_
  intro p e s m below meth c A ls hc hA hK hP hD hS hl
  obtain ⟨hx, hb, hml, hr, hts, hown, hlocks, hin⟩ := (show _ from hc)
  have hl : lv_has ls 5 [(0, .ref (q 0)), (1, .long x)] := hl
  refine lv_iconst (v := (-1)) hx hb dX1_mostUrgent_0 (by decide) ?_
  refine lv_istore_n (lv' := [(3, .int (-1)), (0, .ref (q 0)), (1, .long x)]) hx hb dX1_mostUrgent_1 rfl hl (by decide) rfl (fun ls hl => ?_)
  refine lv_iconst (v := nI 0) hx hb dX1_mostUrgent_2 (by decide) ?_
  refine lv_istore (lv' := [(4, .int (nI 0)), (3, .int (-1)), (0, .ref (q 0)), (1, .long x)]) hx hb dX1_mostUrgent_3 hl (by decide) rfl (fun ls hl => ?_)
  have loop5 : ∀ (n : Nat) (i : Nat) (bt : Option Nat), (i ≤ tn) → (∀ j, bt = some j → j < tn) → (bt = muF wt bl sh dl x i) → tn - i < n → ∀ (H : Heap) (locs : List Loc) (ls : Array Slot), va_P D vwCl (RqW q k ow wr fi sz dl wt bl sh so tn sn un) H → va_D A (RqW q k ow wr fi sz dl wt bl sh so tn sn un) → va_S A s.heap H locs → lv_has ls 5 [(0, .ref (q 0)), (1, .long x), (3, .int (oI bt)), (4, .int (nI i))] → W p l e ({ frames := 1, cells := 0, slots := 0, locals := 21 } : Room) s m [.ref (q 0), .long x].toArray below meth c H locs 0 0 (MQ below (QI D k (fun r9 w9 => r9 = (oI (muF wt bl sh dl x tn)) ∧ w9 = RqW q k ow wr fi sz dl wt bl sh so tn sn un) A) [.ref (q 0), .long x].toArray s 0 0 A) (F0 m 5 ls []) := by
    intro n
    induction n with
    | zero => intro i bt hi hj hbt hn9; exact absurd hn9 (Nat.not_lt_zero _)
    | succ n ih =>
      intro i bt hi hj hbt hn9 H locs ls hP hD hS hl
      refine lv_iload hx hb dX1_mostUrgent_5 (lv_at hl 3 rfl) ?_
      refine lv_aload_n hx hb dX1_mostUrgent_7 rfl (lv_at hl 0 rfl) ?_
      refine va_get (D := D) (ci := 1) (v := .int (nI tn)) (C := RX1) (T := TX1) (N := 12) hx hb hts iwX1_mostUrgent_X1 hown hK hP 0 rfl rfl 9 (by decide) (hts (Cond.fieldLink RX1 41 "ShareDisk$Requests" "tickets" "I") mwX1_mostUrgent_0) (fun _ h9 => h9) rfl dX1_mostUrgent_8 ?_
      refine lv_icmp_ge (tgt := 67) hx hb dX1_mostUrgent_11 (by decide) (fun c1 => ?_) (fun c1 => ?_)
      · have hi8 : i = tn := lp_ge (by omega) hi c1
        refine lv_iload_n hx hb dX1_mostUrgent_67 rfl (lv_at hl 2 rfl) ?_
        exact retI hc dX1_mostUrgent_68 hK hP hD hS (⟨by rw [hbt, hi8], rfl⟩) (Nat.le_of_ble_eq_true rfl) (Nat.le_of_ble_eq_true rfl)
      · have hi8 : i < tn := lp_lt (by omega) hi c1
        refine lv_aload_n hx hb dX1_mostUrgent_14 rfl (lv_at hl 0 rfl) ?_
        refine lv_iload hx hb dX1_mostUrgent_15 (lv_at hl 3 rfl) ?_
        refine goVI0 hc (kX1_stateOf l D k q H.size ow wr fi sz dl wt bl sh so tn sn un i (by first | omega | (have := hj j rfl; omega))) (cwV 1 hts gX1_mostUrgent_X1_stateOf rfl rfl rfl (by decide +kernel) ⟨(Nat.le_of_ble_eq_true rfl), (Nat.le_of_ble_eq_true rfl)⟩) hP hD hK hS hA (ci := 1) (q0 := 0) rfl rfl rfl hl.1 rfl (Nat.le_of_ble_eq_true rfl) dX1_mostUrgent_17 (Nat.le_of_ble_eq_true rfl) (Nat.le_of_ble_eq_true rfl) (fun r9 B9 H locs hq hP hD hS => ?_)
        obtain ⟨hr9, rfl⟩ := hq
        subst hr9
        have hP : va_P D vwCl (RqW q k ow wr fi sz dl wt bl sh so tn sn un) H := hP
        have hD : va_D A (RqW q k ow wr fi sz dl wt bl sh so tn sn un) := hD
        refine lv_iconst (v := nI 1) hx hb dX1_mostUrgent_20 (by decide) ?_
        refine lv_icmp_ne (tgt := 61) hx hb dX1_mostUrgent_21 (by decide) (fun c2 => ?_) (fun c2 => ?_)
        · refine lv_iinc (v := nI (i + 1)) (lv' := [(4, .int (nI (i + 1))), (0, .ref (q 0)), (1, .long x), (3, .int (oI bt))]) hx hb dX1_mostUrgent_61 hl (k := 3) rfl (by rw [show Int32.ofInt 1 = nI 1 by decide, nI_add]) (by decide) rfl (fun ls hl => ?_)
          refine lv_goto (tgt := 5) hx hb dX1_mostUrgent_64 (by decide) ?_
          exact ih (i + 1) bt (by omega) hj (by rw [hbt]; simp [muF, c2]) (by omega) _ _ _ hP hD hS (lv_sub hl [1, 2, 3, 0] rfl)
        · refine lv_aload_n hx hb dX1_mostUrgent_24 rfl (lv_at hl 0 rfl) ?_
          refine va_get (D := D) (ci := 1) (v := .ref (q 5)) (C := RX1) (T := TX1) (N := 12) hx hb hts iwX1_mostUrgent_X1 hown hK hP 0 rfl rfl 4 (by decide) (hts (Cond.fieldLink RX1 25 "ShareDisk$Requests" "deadline" "[J") mwX1_mostUrgent_1) (fun _ h9 => h9) rfl dX1_mostUrgent_25 ?_
          refine lv_iload hx hb dX1_mostUrgent_28 (lv_at hl 3 rfl) ?_
          refine aJ hx hb hK hP 5 2 rfl rfl (ix5 (by omega)) dX1_mostUrgent_30 ?_
          refine lv_lload_n hx hb dX1_mostUrgent_31 rfl (lv_at hl 1 rfl) ?_
          refine W.lcmp hx hb dX1_mostUrgent_32 ?_
          refine lv_if_gt (tgt := 61) hx hb dX1_mostUrgent_33 (by decide) (fun c3 => ?_) (fun c3 => ?_)
          · rw [lg_cmp_gt] at c3
            refine lv_iinc (v := nI (i + 1)) (lv' := [(4, .int (nI (i + 1))), (0, .ref (q 0)), (1, .long x), (3, .int (oI bt))]) hx hb dX1_mostUrgent_61 hl (k := 3) rfl (by rw [show Int32.ofInt 1 = nI 1 by decide, nI_add]) (by decide) rfl (fun ls hl => ?_)
            refine lv_goto (tgt := 5) hx hb dX1_mostUrgent_64 (by decide) ?_
            exact ih (i + 1) bt (by omega) hj (by rw [hbt]; simp [muF, c2, c3]) (by omega) _ _ _ hP hD hS (lv_sub hl [1, 2, 3, 0] rfl)
          · rw [lg_cmp_gt] at c3
            rcases bt with _ | j
            · have hl : lv_has ls 5 [(0, .ref (q 0)), (1, .long x), (3, .int (-1)), (4, .int (nI i))] := hl
              refine lv_iload_n hx hb dX1_mostUrgent_36 rfl (lv_at hl 2 rfl) ?_
              refine lv_iconst (v := (-1)) hx hb dX1_mostUrgent_37 (by decide) ?_
              refine lv_icmp_eq (tgt := 58) hx hb dX1_mostUrgent_38 (by decide) (fun c4 => ?_) (fun c4 => False.elim (c4 rfl))
              refine lv_iload hx hb dX1_mostUrgent_58 (lv_at hl 3 rfl) ?_
              refine lv_istore_n (lv' := [(3, .int (nI i)), (0, .ref (q 0)), (1, .long x), (4, .int (nI i))]) hx hb dX1_mostUrgent_60 rfl hl (by decide) rfl (fun ls hl => ?_)
              refine lv_iinc (v := nI (i + 1)) (lv' := [(4, .int (nI (i + 1))), (3, .int (nI i)), (0, .ref (q 0)), (1, .long x)]) hx hb dX1_mostUrgent_61 hl (k := 3) rfl (by rw [show Int32.ofInt 1 = nI 1 by decide, nI_add]) (by decide) rfl (fun ls hl => ?_)
              refine lv_goto (tgt := 5) hx hb dX1_mostUrgent_64 (by decide) ?_
              exact ih (i + 1) (some i) (by omega) (fun j h => by cases h; omega) (by simp [muF, ← hbt, c2, c3]) (by omega) _ _ _ hP hD hS (lv_sub hl [2, 3, 1, 0] rfl)
            · have hl : lv_has ls 5 [(0, .ref (q 0)), (1, .long x), (3, .int (nI j)), (4, .int (nI i))] := hl
              refine lv_iload_n hx hb dX1_mostUrgent_36 rfl (lv_at hl 2 rfl) ?_
              refine lv_iconst (v := (-1)) hx hb dX1_mostUrgent_37 (by decide) ?_
              refine lv_icmp_eq (tgt := 58) hx hb dX1_mostUrgent_38 (by decide) (fun c5 => False.elim (nI_ne_m1 (show j < 2 ^ 31 by have := hj j rfl; omega) c5)) (fun c5 => ?_)
              refine lv_aload_n hx hb dX1_mostUrgent_41 rfl (lv_at hl 0 rfl) ?_
              refine va_get (D := D) (ci := 1) (v := .ref (q 5)) (C := RX1) (T := TX1) (N := 12) hx hb hts iwX1_mostUrgent_X1 hown hK hP 0 rfl rfl 4 (by decide) (hts (Cond.fieldLink RX1 25 "ShareDisk$Requests" "deadline" "[J") mwX1_mostUrgent_1) (fun _ h9 => h9) rfl dX1_mostUrgent_42 ?_
              refine lv_iload hx hb dX1_mostUrgent_45 (lv_at hl 3 rfl) ?_
              refine aJ hx hb hK hP 5 2 rfl rfl (ix5 (by omega)) dX1_mostUrgent_47 ?_
              refine lv_aload_n hx hb dX1_mostUrgent_48 rfl (lv_at hl 0 rfl) ?_
              refine va_get (D := D) (ci := 1) (v := .ref (q 5)) (C := RX1) (T := TX1) (N := 12) hx hb hts iwX1_mostUrgent_X1 hown hK hP 0 rfl rfl 4 (by decide) (hts (Cond.fieldLink RX1 25 "ShareDisk$Requests" "deadline" "[J") mwX1_mostUrgent_1) (fun _ h9 => h9) rfl dX1_mostUrgent_49 ?_
              refine lv_iload_n hx hb dX1_mostUrgent_52 rfl (lv_at hl 2 rfl) ?_
              refine aJ hx hb hK hP 5 2 rfl rfl (ix5 (by have := hj j rfl; omega)) dX1_mostUrgent_53 ?_
              refine W.lcmp hx hb dX1_mostUrgent_54 ?_
              refine lv_if_ge (tgt := 61) hx hb dX1_mostUrgent_55 (by decide) (fun c6 => ?_) (fun c6 => ?_)
              · rw [lg_cmp_ge] at c6
                refine lv_iinc (v := nI (i + 1)) (lv' := [(4, .int (nI (i + 1))), (0, .ref (q 0)), (1, .long x), (3, .int (nI j))]) hx hb dX1_mostUrgent_61 hl (k := 3) rfl (by rw [show Int32.ofInt 1 = nI 1 by decide, nI_add]) (by decide) rfl (fun ls hl => ?_)
                refine lv_goto (tgt := 5) hx hb dX1_mostUrgent_64 (by decide) ?_
                exact ih (i + 1) (some j) (by omega) hj (by simp [muF, ← hbt, c2, c3, c6]) (by omega) _ _ _ hP hD hS (lv_sub hl [1, 2, 3, 0] rfl)
              · rw [lg_cmp_ge] at c6
                refine lv_iload hx hb dX1_mostUrgent_58 (lv_at hl 3 rfl) ?_
                refine lv_istore_n (lv' := [(3, .int (nI i)), (0, .ref (q 0)), (1, .long x), (4, .int (nI i))]) hx hb dX1_mostUrgent_60 rfl hl (by decide) rfl (fun ls hl => ?_)
                refine lv_iinc (v := nI (i + 1)) (lv' := [(4, .int (nI (i + 1))), (3, .int (nI i)), (0, .ref (q 0)), (1, .long x)]) hx hb dX1_mostUrgent_61 hl (k := 3) rfl (by rw [show Int32.ofInt 1 = nI 1 by decide, nI_add]) (by decide) rfl (fun ls hl => ?_)
                refine lv_goto (tgt := 5) hx hb dX1_mostUrgent_64 (by decide) ?_
                exact ih (i + 1) (some i) (by omega) (fun j h => by cases h; omega) (by simp [muF, ← hbt, c2, c3, c6]) (by omega) _ _ _ hP hD hS (lv_sub hl [2, 3, 1, 0] rfl)
  exact loop5 _ 0 none (by omega) (fun j h => by cases h) rfl (Nat.lt_succ_self _) s.heap _ _ hP hD hS (lv_sub hl [2, 3, 1, 0] rfl)
theorem mwX1_turnOf_0 : Cond.fieldLink RX1 19 "ShareDisk$Requests" "first" "[I" ∈ wsX1_turnOf := by decide +kernel
theorem mwX1_turnOf_1 : Cond.constant RX1 63 (100000) ∈ wsX1_turnOf := by decide +kernel
theorem iwX1_turnOf_X1 : ∀ w ∈ wsX10, w ∈ wsX1_turnOf := by decide +kernel
set_option maxHeartbeats 4000000 in
set_option maxRecDepth 100000 in
theorem kX1_turnOf (l : Launch) (D : va_G) (k : Nat → ClassId) (q : Nat → Nat) (zz : Nat) (ow wr fi sz : Nat → Int32) (dl : Nat → Int64) (wt bl sh so : Nat → Int32) (tn sn un : Nat) (t : Nat) (x : Int32) (ht : t < 500) : MI l yX1_turnOf wsX1_turnOf ({ frames := 0, cells := 0, slots := 0, locals := 0 } : Room) D k (RqW q k ow wr fi sz dl wt bl sh so tn sn un) zz [.ref (q 0), .int (nI t), .int x] (fun r9 w9 => r9 = (tuF fi x t) ∧ w9 = RqW q k ow wr fi sz dl wt bl sh so tn sn un) 0 0 := by
  refine bodyOf (Qc := fun A => QI D k (fun r9 w9 => r9 = (tuF fi x t) ∧ w9 = RqW q k ow wr fi sz dl wt bl sh so tn sn un) A) (cc := cX1_turnOf) (maxL := 3) (ret := (some .int)) (by decide) rfl (Nat.le_of_ble_eq_true rfl) ?_
  intro p e s m below meth c A ls hc hA hK hP hD hS hl
  obtain ⟨hx, hb, hml, hr, hts, hown, hlocks, hin⟩ := (show _ from hc)
  have hl : lv_has ls 3 [(0, .ref (q 0)), (1, .int (nI t)), (2, .int x)] := hl
  refine lv_aload_n hx hb dX1_turnOf_0 rfl (lv_at hl 0 rfl) ?_
  refine va_get (D := D) (ci := 1) (v := .ref (q 3)) (C := RX1) (T := TX1) (N := 12) hx hb hts iwX1_turnOf_X1 hown hK hP 0 rfl rfl 2 (by decide) (hts (Cond.fieldLink RX1 19 "ShareDisk$Requests" "first" "[I") mwX1_turnOf_0) (fun _ h9 => h9) rfl dX1_turnOf_1 ?_
  refine lv_iload_n hx hb dX1_turnOf_4 rfl (lv_at hl 1 rfl) ?_
  refine aI hx hb hK hP 3 1 rfl rfl (ix5 ht) dX1_turnOf_5 ?_
  refine lv_iload_n hx hb dX1_turnOf_6 rfl (lv_at hl 2 rfl) ?_
  refine lv_icmp_lt (tgt := 19) hx hb dX1_turnOf_7 (by decide) (fun c1 => ?_) (fun c1 => ?_)
  · refine lv_aload_n hx hb dX1_turnOf_19 rfl (lv_at hl 0 rfl) ?_
    refine va_get (D := D) (ci := 1) (v := .ref (q 3)) (C := RX1) (T := TX1) (N := 12) hx hb hts iwX1_turnOf_X1 hown hK hP 0 rfl rfl 2 (by decide) (hts (Cond.fieldLink RX1 19 "ShareDisk$Requests" "first" "[I") mwX1_turnOf_0) (fun _ h9 => h9) rfl dX1_turnOf_20 ?_
    refine lv_iload_n hx hb dX1_turnOf_23 rfl (lv_at hl 1 rfl) ?_
    refine aI hx hb hK hP 3 1 rfl rfl (ix5 ht) dX1_turnOf_24 ?_
    refine lv_ldc (v := nI 100000) hx hb hown (hts (.constant RX1 63 (100000)) mwX1_turnOf_1) dX1_turnOf_25 ?_
    refine lv_iadd hx hb dX1_turnOf_27 ?_
    exact retI hc dX1_turnOf_28 hK hP hD hS (⟨by simp [tuF, c1], rfl⟩) (Nat.le_of_ble_eq_true rfl) (Nat.le_of_ble_eq_true rfl)
  · refine lv_aload_n hx hb dX1_turnOf_10 rfl (lv_at hl 0 rfl) ?_
    refine va_get (D := D) (ci := 1) (v := .ref (q 3)) (C := RX1) (T := TX1) (N := 12) hx hb hts iwX1_turnOf_X1 hown hK hP 0 rfl rfl 2 (by decide) (hts (Cond.fieldLink RX1 19 "ShareDisk$Requests" "first" "[I") mwX1_turnOf_0) (fun _ h9 => h9) rfl dX1_turnOf_11 ?_
    refine lv_iload_n hx hb dX1_turnOf_14 rfl (lv_at hl 1 rfl) ?_
    refine aI hx hb hK hP 3 1 rfl rfl (ix5 ht) dX1_turnOf_15 ?_
    refine lv_goto (tgt := 28) hx hb dX1_turnOf_16 (by decide) ?_
    exact retI hc dX1_turnOf_28 hK hP hD hS (⟨by simp [tuF, c1], rfl⟩) (Nat.le_of_ble_eq_true rfl) (Nat.le_of_ble_eq_true rfl)
theorem mwX1_nextAlong_0 : Cond.fieldLink RX1 41 "ShareDisk$Requests" "tickets" "I" ∈ wsX1_nextAlong := by decide +kernel
theorem mwX1_nextAlong_1 : Cond.fieldLink RX1 9 "ShareDisk$Requests" "owner" "[I" ∈ wsX1_nextAlong := by decide +kernel
theorem iwX1_nextAlong_X1 : ∀ w ∈ wsX10, w ∈ wsX1_nextAlong := by decide +kernel
set_option maxHeartbeats 4000000 in
set_option maxRecDepth 100000 in
theorem kX1_nextAlong (l : Launch) (D : va_G) (k : Nat → ClassId) (q : Nat → Nat) (zz : Nat) (ow wr fi sz : Nat → Int32) (dl : Nat → Int64) (wt bl sh so : Nat → Int32) (tn sn un : Nat) (o : Int32) (x : Int32) (htn : tn ≤ 500) : MI l yX1_nextAlong wsX1_nextAlong ({ frames := 1, cells := 0, slots := 0, locals := 22 } : Room) D k (RqW q k ow wr fi sz dl wt bl sh so tn sn un) zz [.ref (q 0), .int o, .int x] (fun r9 w9 => r9 = (oI (naF ow fi wt bl sh o x tn)) ∧ w9 = RqW q k ow wr fi sz dl wt bl sh so tn sn un) 0 0 := by
  refine bodyOf (Qc := fun A => QI D k (fun r9 w9 => r9 = (oI (naF ow fi wt bl sh o x tn)) ∧ w9 = RqW q k ow wr fi sz dl wt bl sh so tn sn un) A) (cc := cX1_nextAlong) (maxL := 5) (ret := (some .int)) (by decide) rfl (Nat.le_of_ble_eq_true rfl) ?_
  intro p e s m below meth c A ls hc hA hK hP hD hS hl
  obtain ⟨hx, hb, hml, hr, hts, hown, hlocks, hin⟩ := (show _ from hc)
  have hl : lv_has ls 5 [(0, .ref (q 0)), (1, .int o), (2, .int x)] := hl
  refine lv_iconst (v := (-1)) hx hb dX1_nextAlong_0 (by decide) ?_
  refine lv_istore_n (lv' := [(3, .int (-1)), (0, .ref (q 0)), (1, .int o), (2, .int x)]) hx hb dX1_nextAlong_1 rfl hl (by decide) rfl (fun ls hl => ?_)
  refine lv_iconst (v := nI 0) hx hb dX1_nextAlong_2 (by decide) ?_
  refine lv_istore (lv' := [(4, .int (nI 0)), (3, .int (-1)), (0, .ref (q 0)), (1, .int o), (2, .int x)]) hx hb dX1_nextAlong_3 hl (by decide) rfl (fun ls hl => ?_)
  have loop5 : ∀ (n : Nat) (i : Nat) (bt : Option Nat), (i ≤ tn) → (∀ j, bt = some j → j < tn) → (bt = naF ow fi wt bl sh o x i) → tn - i < n → ∀ (H : Heap) (locs : List Loc) (ls : Array Slot), va_P D vwCl (RqW q k ow wr fi sz dl wt bl sh so tn sn un) H → va_D A (RqW q k ow wr fi sz dl wt bl sh so tn sn un) → va_S A s.heap H locs → lv_has ls 5 [(0, .ref (q 0)), (1, .int o), (2, .int x), (3, .int (oI bt)), (4, .int (nI i))] → W p l e ({ frames := 1, cells := 0, slots := 0, locals := 22 } : Room) s m [.ref (q 0), .int o, .int x].toArray below meth c H locs 0 0 (MQ below (QI D k (fun r9 w9 => r9 = (oI (naF ow fi wt bl sh o x tn)) ∧ w9 = RqW q k ow wr fi sz dl wt bl sh so tn sn un) A) [.ref (q 0), .int o, .int x].toArray s 0 0 A) (F0 m 5 ls []) := by
    intro n
    induction n with
    | zero => intro i bt hi hj hbt hn9; exact absurd hn9 (Nat.not_lt_zero _)
    | succ n ih =>
      intro i bt hi hj hbt hn9 H locs ls hP hD hS hl
      refine lv_iload hx hb dX1_nextAlong_5 (lv_at hl 4 rfl) ?_
      refine lv_aload_n hx hb dX1_nextAlong_7 rfl (lv_at hl 0 rfl) ?_
      refine va_get (D := D) (ci := 1) (v := .int (nI tn)) (C := RX1) (T := TX1) (N := 12) hx hb hts iwX1_nextAlong_X1 hown hK hP 0 rfl rfl 9 (by decide) (hts (Cond.fieldLink RX1 41 "ShareDisk$Requests" "tickets" "I") mwX1_nextAlong_0) (fun _ h9 => h9) rfl dX1_nextAlong_8 ?_
      refine lv_icmp_ge (tgt := 65) hx hb dX1_nextAlong_11 (by decide) (fun c1 => ?_) (fun c1 => ?_)
      · have hi8 : i = tn := lp_ge (by omega) hi c1
        refine lv_iload_n hx hb dX1_nextAlong_65 rfl (lv_at hl 3 rfl) ?_
        exact retI hc dX1_nextAlong_66 hK hP hD hS (⟨by rw [hbt, hi8], rfl⟩) (Nat.le_of_ble_eq_true rfl) (Nat.le_of_ble_eq_true rfl)
      · have hi8 : i < tn := lp_lt (by omega) hi c1
        refine lv_aload_n hx hb dX1_nextAlong_14 rfl (lv_at hl 0 rfl) ?_
        refine lv_iload hx hb dX1_nextAlong_15 (lv_at hl 4 rfl) ?_
        refine goVI0 hc (kX1_stateOf l D k q H.size ow wr fi sz dl wt bl sh so tn sn un i (by first | omega | (have := hj j rfl; omega))) (cwV 1 hts gX1_nextAlong_X1_stateOf rfl rfl rfl (by decide +kernel) ⟨(Nat.le_of_ble_eq_true rfl), (Nat.le_of_ble_eq_true rfl)⟩) hP hD hK hS hA (ci := 1) (q0 := 0) rfl rfl rfl hl.1 rfl (Nat.le_of_ble_eq_true rfl) dX1_nextAlong_17 (Nat.le_of_ble_eq_true rfl) (Nat.le_of_ble_eq_true rfl) (fun r9 B9 H locs hq hP hD hS => ?_)
        obtain ⟨hr9, rfl⟩ := hq
        subst hr9
        have hP : va_P D vwCl (RqW q k ow wr fi sz dl wt bl sh so tn sn un) H := hP
        have hD : va_D A (RqW q k ow wr fi sz dl wt bl sh so tn sn un) := hD
        refine lv_iconst (v := nI 1) hx hb dX1_nextAlong_20 (by decide) ?_
        refine lv_icmp_ne (tgt := 59) hx hb dX1_nextAlong_21 (by decide) (fun c2 => ?_) (fun c2 => ?_)
        · refine lv_iinc (v := nI (i + 1)) (lv' := [(4, .int (nI (i + 1))), (0, .ref (q 0)), (1, .int o), (2, .int x), (3, .int (oI bt))]) hx hb dX1_nextAlong_59 hl (k := 4) rfl (by rw [show Int32.ofInt 1 = nI 1 by decide, nI_add]) (by decide) rfl (fun ls hl => ?_)
          refine lv_goto (tgt := 5) hx hb dX1_nextAlong_62 (by decide) ?_
          exact ih (i + 1) bt (by omega) hj (by rw [hbt]; simp [naF, c2]) (by omega) _ _ _ hP hD hS (lv_sub hl [1, 2, 3, 4, 0] rfl)
        · refine lv_aload_n hx hb dX1_nextAlong_24 rfl (lv_at hl 0 rfl) ?_
          refine va_get (D := D) (ci := 1) (v := .ref (q 1)) (C := RX1) (T := TX1) (N := 12) hx hb hts iwX1_nextAlong_X1 hown hK hP 0 rfl rfl 0 (by decide) (hts (Cond.fieldLink RX1 9 "ShareDisk$Requests" "owner" "[I") mwX1_nextAlong_1) (fun _ h9 => h9) rfl dX1_nextAlong_25 ?_
          refine lv_iload hx hb dX1_nextAlong_28 (lv_at hl 4 rfl) ?_
          refine aI hx hb hK hP 1 1 rfl rfl (ix5 (by omega)) dX1_nextAlong_30 ?_
          refine lv_iload_n hx hb dX1_nextAlong_31 rfl (lv_at hl 1 rfl) ?_
          refine lv_icmp_ne (tgt := 59) hx hb dX1_nextAlong_32 (by decide) (fun c3 => ?_) (fun c3 => ?_)
          · refine lv_iinc (v := nI (i + 1)) (lv' := [(4, .int (nI (i + 1))), (0, .ref (q 0)), (1, .int o), (2, .int x), (3, .int (oI bt))]) hx hb dX1_nextAlong_59 hl (k := 4) rfl (by rw [show Int32.ofInt 1 = nI 1 by decide, nI_add]) (by decide) rfl (fun ls hl => ?_)
            refine lv_goto (tgt := 5) hx hb dX1_nextAlong_62 (by decide) ?_
            exact ih (i + 1) bt (by omega) hj (by rw [hbt]; simp [naF, c2, c3]) (by omega) _ _ _ hP hD hS (lv_sub hl [1, 2, 3, 4, 0] rfl)
          · rcases bt with _ | j
            · have hl : lv_has ls 5 [(0, .ref (q 0)), (1, .int o), (2, .int x), (3, .int (-1)), (4, .int (nI i))] := hl
              refine lv_iload_n hx hb dX1_nextAlong_35 rfl (lv_at hl 3 rfl) ?_
              refine lv_iconst (v := (-1)) hx hb dX1_nextAlong_36 (by decide) ?_
              refine lv_icmp_eq (tgt := 56) hx hb dX1_nextAlong_37 (by decide) (fun c4 => ?_) (fun c4 => False.elim (c4 rfl))
              refine lv_iload hx hb dX1_nextAlong_56 (lv_at hl 4 rfl) ?_
              refine lv_istore_n (lv' := [(3, .int (nI i)), (0, .ref (q 0)), (1, .int o), (2, .int x), (4, .int (nI i))]) hx hb dX1_nextAlong_58 rfl hl (by decide) rfl (fun ls hl => ?_)
              refine lv_iinc (v := nI (i + 1)) (lv' := [(4, .int (nI (i + 1))), (3, .int (nI i)), (0, .ref (q 0)), (1, .int o), (2, .int x)]) hx hb dX1_nextAlong_59 hl (k := 4) rfl (by rw [show Int32.ofInt 1 = nI 1 by decide, nI_add]) (by decide) rfl (fun ls hl => ?_)
              refine lv_goto (tgt := 5) hx hb dX1_nextAlong_62 (by decide) ?_
              exact ih (i + 1) (some i) (by omega) (fun j h => by cases h; omega) (by simp [naF, ← hbt, c2, c3]) (by omega) _ _ _ hP hD hS (lv_sub hl [2, 3, 4, 1, 0] rfl)
            · have hl : lv_has ls 5 [(0, .ref (q 0)), (1, .int o), (2, .int x), (3, .int (nI j)), (4, .int (nI i))] := hl
              refine lv_iload_n hx hb dX1_nextAlong_35 rfl (lv_at hl 3 rfl) ?_
              refine lv_iconst (v := (-1)) hx hb dX1_nextAlong_36 (by decide) ?_
              refine lv_icmp_eq (tgt := 56) hx hb dX1_nextAlong_37 (by decide) (fun c5 => False.elim (nI_ne_m1 (show j < 2 ^ 31 by have := hj j rfl; omega) c5)) (fun c5 => ?_)
              refine lv_aload_n hx hb dX1_nextAlong_40 rfl (lv_at hl 0 rfl) ?_
              refine lv_iload hx hb dX1_nextAlong_41 (lv_at hl 4 rfl) ?_
              refine lv_iload_n hx hb dX1_nextAlong_43 rfl (lv_at hl 2 rfl) ?_
              refine goVI0 hc (kX1_turnOf l D k q H.size ow wr fi sz dl wt bl sh so tn sn un i x (by first | omega | (have := hj j rfl; omega))) (cwV 2 hts gX1_nextAlong_X1_turnOf rfl rfl rfl (by decide +kernel) ⟨(Nat.le_of_ble_eq_true rfl), (Nat.le_of_ble_eq_true rfl)⟩) hP hD hK hS hA (ci := 1) (q0 := 0) rfl rfl rfl hl.1 rfl (Nat.le_of_ble_eq_true rfl) dX1_nextAlong_44 (Nat.le_of_ble_eq_true rfl) (Nat.le_of_ble_eq_true rfl) (fun r9 B9 H locs hq hP hD hS => ?_)
              obtain ⟨hr9, rfl⟩ := hq
              subst hr9
              have hP : va_P D vwCl (RqW q k ow wr fi sz dl wt bl sh so tn sn un) H := hP
              have hD : va_D A (RqW q k ow wr fi sz dl wt bl sh so tn sn un) := hD
              refine lv_aload_n hx hb dX1_nextAlong_47 rfl (lv_at hl 0 rfl) ?_
              refine lv_iload_n hx hb dX1_nextAlong_48 rfl (lv_at hl 3 rfl) ?_
              refine lv_iload_n hx hb dX1_nextAlong_49 rfl (lv_at hl 2 rfl) ?_
              refine goVI0 hc (kX1_turnOf l D k q H.size ow wr fi sz dl wt bl sh so tn sn un j x (by first | omega | (have := hj j rfl; omega))) (cwV 2 hts gX1_nextAlong_X1_turnOf rfl rfl rfl (by decide +kernel) ⟨(Nat.le_of_ble_eq_true rfl), (Nat.le_of_ble_eq_true rfl)⟩) hP hD hK hS hA (ci := 1) (q0 := 0) rfl rfl rfl hl.1 rfl (Nat.le_of_ble_eq_true rfl) dX1_nextAlong_50 (Nat.le_of_ble_eq_true rfl) (Nat.le_of_ble_eq_true rfl) (fun r9 B9 H locs hq hP hD hS => ?_)
              obtain ⟨hr9, rfl⟩ := hq
              subst hr9
              have hP : va_P D vwCl (RqW q k ow wr fi sz dl wt bl sh so tn sn un) H := hP
              have hD : va_D A (RqW q k ow wr fi sz dl wt bl sh so tn sn un) := hD
              refine lv_icmp_ge (tgt := 59) hx hb dX1_nextAlong_53 (by decide) (fun c6 => ?_) (fun c6 => ?_)
              · refine lv_iinc (v := nI (i + 1)) (lv' := [(4, .int (nI (i + 1))), (0, .ref (q 0)), (1, .int o), (2, .int x), (3, .int (nI j))]) hx hb dX1_nextAlong_59 hl (k := 4) rfl (by rw [show Int32.ofInt 1 = nI 1 by decide, nI_add]) (by decide) rfl (fun ls hl => ?_)
                refine lv_goto (tgt := 5) hx hb dX1_nextAlong_62 (by decide) ?_
                exact ih (i + 1) (some j) (by omega) hj (by simp [naF, ← hbt, c2, c3, c6]) (by omega) _ _ _ hP hD hS (lv_sub hl [1, 2, 3, 4, 0] rfl)
              · refine lv_iload hx hb dX1_nextAlong_56 (lv_at hl 4 rfl) ?_
                refine lv_istore_n (lv' := [(3, .int (nI i)), (0, .ref (q 0)), (1, .int o), (2, .int x), (4, .int (nI i))]) hx hb dX1_nextAlong_58 rfl hl (by decide) rfl (fun ls hl => ?_)
                refine lv_iinc (v := nI (i + 1)) (lv' := [(4, .int (nI (i + 1))), (3, .int (nI i)), (0, .ref (q 0)), (1, .int o), (2, .int x)]) hx hb dX1_nextAlong_59 hl (k := 4) rfl (by rw [show Int32.ofInt 1 = nI 1 by decide, nI_add]) (by decide) rfl (fun ls hl => ?_)
                refine lv_goto (tgt := 5) hx hb dX1_nextAlong_62 (by decide) ?_
                exact ih (i + 1) (some i) (by omega) (fun j h => by cases h; omega) (by simp [naF, ← hbt, c2, c3, c6]) (by omega) _ _ _ hP hD hS (lv_sub hl [2, 3, 4, 1, 0] rfl)
  exact loop5 _ 0 none (by omega) (fun j h => by cases h) rfl (Nat.lt_succ_self _) s.heap _ _ hP hD hS (lv_sub hl [2, 3, 4, 1, 0] rfl)
