set_option maxHeartbeats 4000000 in
set_option maxRecDepth 100000 in
theorem kX3_in (l : Launch) (D : va_G) (k : Nat → ClassId) (zz : Nat) (x : Int64) (a : Int64) (b : Int64) : MI l yX3_in wsX3_in ({ frames := 0, cells := 0, slots := 0, locals := 0 } : Room) D k ([]) zz [.long x, .long a, .long b] (fun r9 w9 => r9 = (bI (inwL x a b)) ∧ w9 = []) 0 0 := by
  refine bodyOf (Qc := fun A => QI D k (fun r9 w9 => r9 = (bI (inwL x a b)) ∧ w9 = []) A) (cc := cX3_in) (maxL := 6) (ret := (some .boolean)) (by decide) rfl (Nat.le_of_ble_eq_true rfl) ?_
  intro p e s m below meth c A ls hc hA hK hP hD hS hl
  obtain ⟨hx, hb, hml, hr, hts, hown, hlocks, hin⟩ := (show _ from hc)
  have hl : lv_has ls 6 [(0, .long x), (2, .long a), (4, .long b)] := hl
  refine lv_lload_n hx hb dX3_in_0 rfl (lv_at hl 0 rfl) ?_
  refine lv_lload_n hx hb dX3_in_1 rfl (lv_at hl 1 rfl) ?_
  refine W.lcmp hx hb dX3_in_2 ?_
  refine lv_if_lt (tgt := 17) hx hb dX3_in_3 (by decide) (fun c1 => ?_) (fun c1 => ?_)
  · rw [lg_cmp_lt] at c1
    refine lv_iconst (v := nI 0) hx hb dX3_in_17 (by decide) ?_
    exact retZ hc dX3_in_18 hK hP hD hS (Or.inl rfl) (⟨bI_f (by simp [c1]), rfl⟩) (Nat.le_of_ble_eq_true rfl) (Nat.le_of_ble_eq_true rfl)
  · rw [lg_cmp_lt] at c1
    refine lv_lload_n hx hb dX3_in_6 rfl (lv_at hl 0 rfl) ?_
    refine lv_lload hx hb dX3_in_7 (lv_at hl 2 rfl) ?_
    refine W.lcmp hx hb dX3_in_9 ?_
    refine lv_if_gt (tgt := 17) hx hb dX3_in_10 (by decide) (fun c2 => ?_) (fun c2 => ?_)
    · rw [lg_cmp_gt] at c2
      refine lv_iconst (v := nI 0) hx hb dX3_in_17 (by decide) ?_
      exact retZ hc dX3_in_18 hK hP hD hS (Or.inl rfl) (⟨bI_f (by simp [c2]), rfl⟩) (Nat.le_of_ble_eq_true rfl) (Nat.le_of_ble_eq_true rfl)
    · rw [lg_cmp_gt] at c2
      refine lv_iconst (v := nI 1) hx hb dX3_in_13 (by decide) ?_
      refine lv_goto (tgt := 18) hx hb dX3_in_14 (by decide) ?_
      exact retZ hc dX3_in_18 hK hP hD hS (Or.inr rfl) (⟨bI_t ⟨c1, c2⟩, rfl⟩) (Nat.le_of_ble_eq_true rfl) (Nat.le_of_ble_eq_true rfl)
theorem mwX3_thrown_0 : Cond.fieldLink RX3 61 "ShareDiskModel" "thrown" "I" ∈ wsX3_thrown := by decide +kernel
theorem iwX3_thrown_X3 : ∀ w ∈ wsX30, w ∈ wsX3_thrown := by decide +kernel
set_option maxHeartbeats 4000000 in
set_option maxRecDepth 100000 in
theorem kX3_thrown (l : Launch) (D : va_G) (k : Nat → ClassId) (q : Nat → Nat) (zz : Nat) (tr : Int32) (ck : Int64) (hd : Int32) (po : Int64) (th we bu : Nat → Int32) (tg se gr ba : Nat → Int64) (tn sn un : Nat) (ow fi sz so wr dn ur : Nat → Int32) (dl : Nat → Int64) (sl le : Int32) : MI l yX3_thrown wsX3_thrown ({ frames := 0, cells := 0, slots := 0, locals := 0 } : Room) D k (MoW q k tr ck hd po th we bu tg se gr ba tn sn un ow fi sz so wr dn ur dl sl le) zz [.ref (q 0)] (fun r9 w9 => r9 = tr ∧ w9 = MoW q k tr ck hd po th we bu tg se gr ba tn sn un ow fi sz so wr dn ur dl sl le) 0 0 := by
  refine bodyOf (Qc := fun A => QI D k (fun r9 w9 => r9 = tr ∧ w9 = MoW q k tr ck hd po th we bu tg se gr ba tn sn un ow fi sz so wr dn ur dl sl le) A) (cc := cX3_thrown) (maxL := 1) (ret := (some .int)) (by decide) rfl (Nat.le_of_ble_eq_true rfl) ?_
  intro p e s m below meth c A ls hc hA hK hP hD hS hl
  obtain ⟨hx, hb, hml, hr, hts, hown, hlocks, hin⟩ := (show _ from hc)
  have hl : lv_has ls 1 [(0, .ref (q 0))] := hl
  refine lv_aload_n hx hb dX3_thrown_0 rfl (lv_at hl 0 rfl) ?_
  refine va_get (D := D) (ci := 3) (v := .int tr) (C := RX3) (T := TX3) (N := 24) hx hb hts iwX3_thrown_X3 hown hK hP 0 rfl rfl 0 (by decide) (hts (Cond.fieldLink RX3 61 "ShareDiskModel" "thrown" "I") mwX3_thrown_0) (fun _ h9 => h9) rfl dX3_thrown_1 ?_
  exact retI hc dX3_thrown_4 hK hP hD hS (⟨rfl, rfl⟩) (Nat.le_of_ble_eq_true rfl) (Nat.le_of_ble_eq_true rfl)
theorem mwX3_fails_0 : Cond.fieldLink RX3 61 "ShareDiskModel" "thrown" "I" ∈ wsX3_fails := by decide +kernel
theorem iwX3_fails_X3 : ∀ w ∈ wsX30, w ∈ wsX3_fails := by decide +kernel
set_option maxHeartbeats 4000000 in
set_option maxRecDepth 100000 in
theorem kX3_fails (l : Launch) (D : va_G) (k : Nat → ClassId) (q : Nat → Nat) (zz : Nat) (tr : Int32) (ck : Int64) (hd : Int32) (po : Int64) (th we bu : Nat → Int32) (tg se gr ba : Nat → Int64) (tn sn un : Nat) (ow fi sz so wr dn ur : Nat → Int32) (dl : Nat → Int64) (sl le : Int32) (p0 : Int32) (q0 : Int32) : MI l yX3_fails wsX3_fails ({ frames := 0, cells := 0, slots := 0, locals := 0 } : Room) D k (MoW q k tr ck hd po th we bu tg se gr ba tn sn un ow fi sz so wr dn ur dl sl le) zz [.ref (q 0), .int p0, .int q0] (fun r9 w9 => r9 = (bI (¬ (p0 = 0 ∧ q0 = 0))) ∧ w9 = MoW q k (flF p0 q0) ck hd po th we bu tg se gr ba tn sn un ow fi sz so wr dn ur dl sl le) 0 0 := by
  refine bodyOf (Qc := fun A => QI D k (fun r9 w9 => r9 = (bI (¬ (p0 = 0 ∧ q0 = 0))) ∧ w9 = MoW q k (flF p0 q0) ck hd po th we bu tg se gr ba tn sn un ow fi sz so wr dn ur dl sl le) A) (cc := cX3_fails) (maxL := 3) (ret := (some .boolean)) (by decide) rfl (Nat.le_of_ble_eq_true rfl) ?_
  intro p e s m below meth c A ls hc hA hK hP hD hS hl
  obtain ⟨hx, hb, hml, hr, hts, hown, hlocks, hin⟩ := (show _ from hc)
  have hl : lv_has ls 3 [(0, .ref (q 0)), (1, .int p0), (2, .int q0)] := hl
  refine lv_aload_n hx hb dX3_fails_0 rfl (lv_at hl 0 rfl) ?_
  refine lv_iload_n hx hb dX3_fails_1 rfl (lv_at hl 1 rfl) ?_
  refine lv_if_eq (tgt := 9) hx hb dX3_fails_2 (by decide) (fun c1 => ?_) (fun c1 => ?_)
  · refine lv_iload_n hx hb dX3_fails_9 rfl (lv_at hl 2 rfl) ?_
    refine lv_if_eq (tgt := 17) hx hb dX3_fails_10 (by decide) (fun c2 => ?_) (fun c2 => ?_)
    · refine lv_iconst (v := nI 0) hx hb dX3_fails_17 (by decide) ?_
      refine va_put (D := D) (ci := 3) (v := .int (nI 0)) (ty := .int) (C := RX3) (T := TX3) (N := 24) hx hb hts iwX3_fails_X3 tyX3 tyX3_ok nmX3 hown hK hP hD hS 0 rfl rfl 0 (by decide) (hts (Cond.fieldLink RX3 61 "ShareDiskModel" "thrown" "I") mwX3_fails_0) (fun _ h9 => h9) rfl (by decide +kernel) rfl rfl (Nat.le_of_ble_eq_true rfl) dX3_fails_18 (fun H locs hP hD hS => ?_)
      have hP : va_P D vwCl (MoW q k (nI 0) ck hd po th we bu tg se gr ba tn sn un ow fi sz so wr dn ur dl sl le) H := hP
      have hD : va_D A (MoW q k (nI 0) ck hd po th we bu tg se gr ba tn sn un ow fi sz so wr dn ur dl sl le) := hD
      refine lv_aload_n hx hb dX3_fails_21 rfl (lv_at hl 0 rfl) ?_
      refine va_get (D := D) (ci := 3) (v := .int (nI 0)) (C := RX3) (T := TX3) (N := 24) hx hb hts iwX3_fails_X3 hown hK hP 0 rfl rfl 0 (by decide) (hts (Cond.fieldLink RX3 61 "ShareDiskModel" "thrown" "I") mwX3_fails_0) (fun _ h9 => h9) rfl dX3_fails_22 ?_
      refine lv_if_le (tgt := 32) hx hb dX3_fails_25 (by decide) (fun c3 => ?_) (fun c3 => False.elim (c3 (by decide)))
      refine lv_iconst (v := nI 0) hx hb dX3_fails_32 (by decide) ?_
      exact retZ hc dX3_fails_33 hK hP hD hS (Or.inl rfl) (⟨bI_f (fun h => h ⟨c1, c2⟩), by simp [flF, c1, c2]⟩) (Nat.le_of_ble_eq_true rfl) (Nat.le_of_ble_eq_true rfl)
    · refine lv_iconst (v := nI 2) hx hb dX3_fails_13 (by decide) ?_
      refine lv_goto (tgt := 18) hx hb dX3_fails_14 (by decide) ?_
      refine va_put (D := D) (ci := 3) (v := .int (nI 2)) (ty := .int) (C := RX3) (T := TX3) (N := 24) hx hb hts iwX3_fails_X3 tyX3 tyX3_ok nmX3 hown hK hP hD hS 0 rfl rfl 0 (by decide) (hts (Cond.fieldLink RX3 61 "ShareDiskModel" "thrown" "I") mwX3_fails_0) (fun _ h9 => h9) rfl (by decide +kernel) rfl rfl (Nat.le_of_ble_eq_true rfl) dX3_fails_18 (fun H locs hP hD hS => ?_)
      have hP : va_P D vwCl (MoW q k (nI 2) ck hd po th we bu tg se gr ba tn sn un ow fi sz so wr dn ur dl sl le) H := hP
      have hD : va_D A (MoW q k (nI 2) ck hd po th we bu tg se gr ba tn sn un ow fi sz so wr dn ur dl sl le) := hD
      refine lv_aload_n hx hb dX3_fails_21 rfl (lv_at hl 0 rfl) ?_
      refine va_get (D := D) (ci := 3) (v := .int (nI 2)) (C := RX3) (T := TX3) (N := 24) hx hb hts iwX3_fails_X3 hown hK hP 0 rfl rfl 0 (by decide) (hts (Cond.fieldLink RX3 61 "ShareDiskModel" "thrown" "I") mwX3_fails_0) (fun _ h9 => h9) rfl dX3_fails_22 ?_
      refine lv_if_le (tgt := 32) hx hb dX3_fails_25 (by decide) (fun c4 => False.elim (absurd c4 (by decide))) (fun c4 => ?_)
      refine lv_iconst (v := nI 1) hx hb dX3_fails_28 (by decide) ?_
      refine lv_goto (tgt := 33) hx hb dX3_fails_29 (by decide) ?_
      exact retZ hc dX3_fails_33 hK hP hD hS (Or.inr rfl) (⟨bI_t (fun h => c2 h.2), by simp [flF, c1, c2]⟩) (Nat.le_of_ble_eq_true rfl) (Nat.le_of_ble_eq_true rfl)
  · refine lv_iconst (v := nI 1) hx hb dX3_fails_5 (by decide) ?_
    refine lv_goto (tgt := 18) hx hb dX3_fails_6 (by decide) ?_
    refine va_put (D := D) (ci := 3) (v := .int (nI 1)) (ty := .int) (C := RX3) (T := TX3) (N := 24) hx hb hts iwX3_fails_X3 tyX3 tyX3_ok nmX3 hown hK hP hD hS 0 rfl rfl 0 (by decide) (hts (Cond.fieldLink RX3 61 "ShareDiskModel" "thrown" "I") mwX3_fails_0) (fun _ h9 => h9) rfl (by decide +kernel) rfl rfl (Nat.le_of_ble_eq_true rfl) dX3_fails_18 (fun H locs hP hD hS => ?_)
    have hP : va_P D vwCl (MoW q k (nI 1) ck hd po th we bu tg se gr ba tn sn un ow fi sz so wr dn ur dl sl le) H := hP
    have hD : va_D A (MoW q k (nI 1) ck hd po th we bu tg se gr ba tn sn un ow fi sz so wr dn ur dl sl le) := hD
    refine lv_aload_n hx hb dX3_fails_21 rfl (lv_at hl 0 rfl) ?_
    refine va_get (D := D) (ci := 3) (v := .int (nI 1)) (C := RX3) (T := TX3) (N := 24) hx hb hts iwX3_fails_X3 hown hK hP 0 rfl rfl 0 (by decide) (hts (Cond.fieldLink RX3 61 "ShareDiskModel" "thrown" "I") mwX3_fails_0) (fun _ h9 => h9) rfl dX3_fails_22 ?_
    refine lv_if_le (tgt := 32) hx hb dX3_fails_25 (by decide) (fun c5 => False.elim (absurd c5 (by decide))) (fun c5 => ?_)
    refine lv_iconst (v := nI 1) hx hb dX3_fails_28 (by decide) ?_
    refine lv_goto (tgt := 33) hx hb dX3_fails_29 (by decide) ?_
    exact retZ hc dX3_fails_33 hK hP hD hS (Or.inr rfl) (⟨bI_t (fun h => c1 h.1), by simp [flF, c1]⟩) (Nat.le_of_ble_eq_true rfl) (Nat.le_of_ble_eq_true rfl)
theorem mwX3_isThere_0 : Cond.constantLong RX3 64 (7) ∈ wsX3_isThere := by decide +kernel
theorem mwX3_isThere_1 : Cond.fieldLink RX3 7 "ShareDiskModel" "there" "[Z" ∈ wsX3_isThere := by decide +kernel
theorem iwX3_isThere_X3 : ∀ w ∈ wsX30, w ∈ wsX3_isThere := by decide +kernel
set_option maxHeartbeats 4000000 in
set_option maxRecDepth 100000 in
theorem kX3_isThere (l : Launch) (D : va_G) (k : Nat → ClassId) (q : Nat → Nat) (zz : Nat) (tr : Int32) (ck : Int64) (hd : Int32) (po : Int64) (th we bu : Nat → Int32) (tg se gr ba : Nat → Int64) (tn sn un : Nat) (ow fi sz so wr dn ur : Nat → Int32) (dl : Nat → Int64) (sl le : Int32) (x : Int32) : MI l yX3_isThere wsX3_isThere ({ frames := 1, cells := 0, slots := 0, locals := 25 } : Room) D k (MoW q k tr ck hd po th we bu tg se gr ba tn sn un ow fi sz so wr dn ur dl sl le) zz [.ref (q 0), .int x] (fun r9 w9 => r9 = (bI (thB th x)) ∧ w9 = MoW q k tr ck hd po th we bu tg se gr ba tn sn un ow fi sz so wr dn ur dl sl le) 0 0 := by
  refine bodyOf (Qc := fun A => QI D k (fun r9 w9 => r9 = (bI (thB th x)) ∧ w9 = MoW q k tr ck hd po th we bu tg se gr ba tn sn un ow fi sz so wr dn ur dl sl le) A) (cc := cX3_isThere) (maxL := 2) (ret := (some .boolean)) (by decide) rfl (Nat.le_of_ble_eq_true rfl) ?_
  intro p e s m below meth c A ls hc hA hK hP hD hS hl
  obtain ⟨hx, hb, hml, hr, hts, hown, hlocks, hin⟩ := (show _ from hc)
  have hl : lv_has ls 2 [(0, .ref (q 0)), (1, .int x)] := hl
  refine lv_iload_n hx hb dX3_isThere_0 rfl (lv_at hl 1 rfl) ?_
  refine lv_i2l (v := x.toInt64) hx hb dX3_isThere_1 rfl ?_
  refine lv_lconst (v := 0) hx hb dX3_isThere_2 rfl ?_
  refine lv_ldc2 (v := (7)) hx hb hown (hts (.constantLong RX3 64 (7)) mwX3_isThere_0) dX3_isThere_3 ?_
  refine goSI hc (kX3_in l D k s.heap.size x.toInt64 0 (7)) (va_cwS 3 hts gX3_isThere_X3_in rfl rfl rfl (by decide +kernel) ⟨(Nat.le_of_ble_eq_true rfl), (Nat.le_of_ble_eq_true rfl)⟩) hP hD hK hS hA rfl hl.1 rfl (Nat.le_of_ble_eq_true rfl) dX3_isThere_6 (Nat.le_of_ble_eq_true rfl) (Nat.le_of_ble_eq_true rfl) (fun r9 B9 H locs hq hP hD hS => ?_)
  obtain ⟨hr9, -⟩ := hq
  subst hr9
  have hP : va_P D vwCl (MoW q k tr ck hd po th we bu tg se gr ba tn sn un ow fi sz so wr dn ur dl sl le) H := hP
  have hD : va_D A (MoW q k tr ck hd po th we bu tg se gr ba tn sn un ow fi sz so wr dn ur dl sl le) := hD
  refine lv_if_eq (tgt := 25) hx hb dX3_isThere_9 (by decide) (fun c1 => ?_) (fun c1 => ?_)
  · refine lv_iconst (v := nI 0) hx hb dX3_isThere_25 (by decide) ?_
    exact retZ hc dX3_isThere_26 hK hP hD hS (Or.inl rfl) (⟨bI_f (fun h => bI_0 c1 ((inL (a := 0) (b := 7) (by decide) (by decide) (by decide +kernel) (by decide +kernel)).mpr h.1)), rfl⟩) (Nat.le_of_ble_eq_true rfl) (Nat.le_of_ble_eq_true rfl)
  · have hi9 := (inL (a := 0) (b := 7) (by decide) (by decide) (by decide +kernel) (by decide +kernel)).mp (bI_1 c1)
    obtain ⟨j, hj, rfl⟩ := ofW hi9 (by decide)
    refine lv_aload_n hx hb dX3_isThere_12 rfl (lv_at hl 0 rfl) ?_
    refine va_get (D := D) (ci := 3) (v := .ref (q 1)) (C := RX3) (T := TX3) (N := 24) hx hb hts iwX3_isThere_X3 hown hK hP 0 rfl rfl 4 (by decide) (hts (Cond.fieldLink RX3 7 "ShareDiskModel" "there" "[Z") mwX3_isThere_1) (fun _ h9 => h9) rfl dX3_isThere_13 ?_
    refine lv_iload_n hx hb dX3_isThere_16 rfl (lv_at hl 1 rfl) ?_
    refine aZ hx hb hK hP 1 0 rfl rfl (ix8 (by omega)) dX3_isThere_17 ?_
    refine lv_if_eq (tgt := 25) hx hb dX3_isThere_18 (by decide) (fun c2 => ?_) (fun c2 => ?_)
    · refine lv_iconst (v := nI 0) hx hb dX3_isThere_25 (by decide) ?_
      exact retZ hc dX3_isThere_26 hK hP hD hS (Or.inl rfl) (⟨bI_f (fun h => h.2 (by rw [nI_clamp (by omega)]; exact c2)), rfl⟩) (Nat.le_of_ble_eq_true rfl) (Nat.le_of_ble_eq_true rfl)
    · refine lv_iconst (v := nI 1) hx hb dX3_isThere_21 (by decide) ?_
      refine lv_goto (tgt := 26) hx hb dX3_isThere_22 (by decide) ?_
      exact retZ hc dX3_isThere_26 hK hP hD hS (Or.inr rfl) (⟨bI_t ⟨hi9, by rw [nI_clamp (by omega)]; exact c2⟩, rfl⟩) (Nat.le_of_ble_eq_true rfl) (Nat.le_of_ble_eq_true rfl)
theorem mwX3_waiting_0 : Cond.fieldLink RX3 70 "ShareDiskModel" "tickets" "I" ∈ wsX3_waiting := by decide +kernel
theorem mwX3_waiting_1 : Cond.fieldLink RX3 48 "ShareDiskModel" "done" "[Z" ∈ wsX3_waiting := by decide +kernel
theorem mwX3_waiting_2 : Cond.fieldLink RX3 33 "ShareDiskModel" "clientOf" "[I" ∈ wsX3_waiting := by decide +kernel
theorem iwX3_waiting_X3 : ∀ w ∈ wsX30, w ∈ wsX3_waiting := by decide +kernel
set_option maxHeartbeats 4000000 in
set_option maxRecDepth 100000 in
theorem kX3_waiting (l : Launch) (D : va_G) (k : Nat → ClassId) (q : Nat → Nat) (zz : Nat) (tr : Int32) (ck : Int64) (hd : Int32) (po : Int64) (th we bu : Nat → Int32) (tg se gr ba : Nat → Int64) (tn sn un : Nat) (ow fi sz so wr dn ur : Nat → Int32) (dl : Nat → Int64) (sl le : Int32) (x : Int32) (htn : tn ≤ 500) : MI l yX3_waiting wsX3_waiting ({ frames := 0, cells := 0, slots := 0, locals := 0 } : Room) D k (MoW q k tr ck hd po th we bu tg se gr ba tn sn un ow fi sz so wr dn ur dl sl le) zz [.ref (q 0), .int x] (fun r9 w9 => r9 = (nI (wcN dn ow x tn)) ∧ w9 = MoW q k tr ck hd po th we bu tg se gr ba tn sn un ow fi sz so wr dn ur dl sl le) 0 0 := by
  refine bodyOf (Qc := fun A => QI D k (fun r9 w9 => r9 = (nI (wcN dn ow x tn)) ∧ w9 = MoW q k tr ck hd po th we bu tg se gr ba tn sn un ow fi sz so wr dn ur dl sl le) A) (cc := cX3_waiting) (maxL := 4) (ret := (some .int)) (by decide) rfl (Nat.le_of_ble_eq_true rfl) ?_
  intro p e s m below meth c A ls hc hA hK hP hD hS hl
  obtain ⟨hx, hb, hml, hr, hts, hown, hlocks, hin⟩ := (show _ from hc)
  have hl : lv_has ls 4 [(0, .ref (q 0)), (1, .int x)] := hl
  refine lv_iconst (v := nI 0) hx hb dX3_waiting_0 (by decide) ?_
  refine lv_istore_n (lv' := [(2, .int (nI 0)), (0, .ref (q 0)), (1, .int x)]) hx hb dX3_waiting_1 rfl hl (by decide) rfl (fun ls hl => ?_)
  refine lv_iconst (v := nI 0) hx hb dX3_waiting_2 (by decide) ?_
  refine lv_istore_n (lv' := [(3, .int (nI 0)), (2, .int (nI 0)), (0, .ref (q 0)), (1, .int x)]) hx hb dX3_waiting_3 rfl hl (by decide) rfl (fun ls hl => ?_)
  have loop4 : ∀ (n : Nat) (i : Nat) (f : Nat), (i ≤ tn) → (f = wcN dn ow x i) → tn - i < n → ∀ (H : Heap) (locs : List Loc) (ls : Array Slot), va_P D vwCl (MoW q k tr ck hd po th we bu tg se gr ba tn sn un ow fi sz so wr dn ur dl sl le) H → va_D A (MoW q k tr ck hd po th we bu tg se gr ba tn sn un ow fi sz so wr dn ur dl sl le) → va_S A s.heap H locs → lv_has ls 4 [(0, .ref (q 0)), (1, .int x), (2, .int (nI f)), (3, .int (nI i))] → W p l e ({ frames := 0, cells := 0, slots := 0, locals := 0 } : Room) s m [.ref (q 0), .int x].toArray below meth c H locs 0 0 (MQ below (QI D k (fun r9 w9 => r9 = (nI (wcN dn ow x tn)) ∧ w9 = MoW q k tr ck hd po th we bu tg se gr ba tn sn un ow fi sz so wr dn ur dl sl le) A) [.ref (q 0), .int x].toArray s 0 0 A) (F0 m 4 ls []) := by
    intro n
    induction n with
    | zero => intro i f hi hf hn9; exact absurd hn9 (Nat.not_lt_zero _)
    | succ n ih =>
      intro i f hi hf hn9 H locs ls hP hD hS hl
      refine lv_iload_n hx hb dX3_waiting_4 rfl (lv_at hl 3 rfl) ?_
      refine lv_aload_n hx hb dX3_waiting_5 rfl (lv_at hl 0 rfl) ?_
      refine va_get (D := D) (ci := 3) (v := .int (nI tn)) (C := RX3) (T := TX3) (N := 24) hx hb hts iwX3_waiting_X3 hown hK hP 0 rfl rfl 11 (by decide) (hts (Cond.fieldLink RX3 70 "ShareDiskModel" "tickets" "I") mwX3_waiting_0) (fun _ h9 => h9) rfl dX3_waiting_6 ?_
      refine lv_icmp_ge (tgt := 45) hx hb dX3_waiting_9 (by decide) (fun c1 => ?_) (fun c1 => ?_)
      · have hi8 : i = tn := lp_ge (by omega) hi c1
        refine lv_iload_n hx hb dX3_waiting_45 rfl (lv_at hl 2 rfl) ?_
        exact retI hc dX3_waiting_46 hK hP hD hS (⟨by rw [hf, hi8], rfl⟩) (Nat.le_of_ble_eq_true rfl) (Nat.le_of_ble_eq_true rfl)
      · have hi8 : i < tn := lp_lt (by omega) hi c1
        refine lv_iload_n hx hb dX3_waiting_12 rfl (lv_at hl 2 rfl) ?_
        refine lv_aload_n hx hb dX3_waiting_13 rfl (lv_at hl 0 rfl) ?_
        refine va_get (D := D) (ci := 3) (v := .ref (q 13)) (C := RX3) (T := TX3) (N := 24) hx hb hts iwX3_waiting_X3 hown hK hP 0 rfl rfl 19 (by decide) (hts (Cond.fieldLink RX3 48 "ShareDiskModel" "done" "[Z") mwX3_waiting_1) (fun _ h9 => h9) rfl dX3_waiting_14 ?_
        refine lv_iload_n hx hb dX3_waiting_17 rfl (lv_at hl 3 rfl) ?_
        refine aZ hx hb hK hP 13 0 rfl rfl (ix5 (by omega)) dX3_waiting_18 ?_
        refine lv_if_ne (tgt := 36) hx hb dX3_waiting_19 (by decide) (fun c2 => ?_) (fun c2 => ?_)
        · refine lv_iconst (v := nI 0) hx hb dX3_waiting_36 (by decide) ?_
          refine nadd hx hb dX3_waiting_37 ?_
          refine lv_istore_n (lv' := [(2, .int (nI (f + 0))), (0, .ref (q 0)), (1, .int x), (3, .int (nI i))]) hx hb dX3_waiting_38 rfl hl (by decide) rfl (fun ls hl => ?_)
          refine lv_iinc (v := nI (i + 1)) (lv' := [(3, .int (nI (i + 1))), (2, .int (nI (f + 0))), (0, .ref (q 0)), (1, .int x)]) hx hb dX3_waiting_39 hl (k := 3) rfl (by rw [show Int32.ofInt 1 = nI 1 by decide, nI_add]) (by decide) rfl (fun ls hl => ?_)
          refine lv_goto (tgt := 4) hx hb dX3_waiting_42 (by decide) ?_
          exact ih (i + 1) (f + 0) (by omega) (by simp [wcN, hf, c2]) (by omega) _ _ _ hP hD hS (lv_sub hl [2, 3, 1, 0] rfl)
        · refine lv_aload_n hx hb dX3_waiting_22 rfl (lv_at hl 0 rfl) ?_
          refine va_get (D := D) (ci := 3) (v := .ref (q 8)) (C := RX3) (T := TX3) (N := 24) hx hb hts iwX3_waiting_X3 hown hK hP 0 rfl rfl 14 (by decide) (hts (Cond.fieldLink RX3 33 "ShareDiskModel" "clientOf" "[I") mwX3_waiting_2) (fun _ h9 => h9) rfl dX3_waiting_23 ?_
          refine lv_iload_n hx hb dX3_waiting_26 rfl (lv_at hl 3 rfl) ?_
          refine aI hx hb hK hP 8 1 rfl rfl (ix5 (by omega)) dX3_waiting_27 ?_
          refine lv_iload_n hx hb dX3_waiting_28 rfl (lv_at hl 1 rfl) ?_
          refine lv_icmp_ne (tgt := 36) hx hb dX3_waiting_29 (by decide) (fun c3 => ?_) (fun c3 => ?_)
          · refine lv_iconst (v := nI 0) hx hb dX3_waiting_36 (by decide) ?_
            refine nadd hx hb dX3_waiting_37 ?_
            refine lv_istore_n (lv' := [(2, .int (nI (f + 0))), (0, .ref (q 0)), (1, .int x), (3, .int (nI i))]) hx hb dX3_waiting_38 rfl hl (by decide) rfl (fun ls hl => ?_)
            refine lv_iinc (v := nI (i + 1)) (lv' := [(3, .int (nI (i + 1))), (2, .int (nI (f + 0))), (0, .ref (q 0)), (1, .int x)]) hx hb dX3_waiting_39 hl (k := 3) rfl (by rw [show Int32.ofInt 1 = nI 1 by decide, nI_add]) (by decide) rfl (fun ls hl => ?_)
            refine lv_goto (tgt := 4) hx hb dX3_waiting_42 (by decide) ?_
            exact ih (i + 1) (f + 0) (by omega) (by simp [wcN, hf, c2, c3]) (by omega) _ _ _ hP hD hS (lv_sub hl [2, 3, 1, 0] rfl)
          · refine lv_iconst (v := nI 1) hx hb dX3_waiting_32 (by decide) ?_
            refine lv_goto (tgt := 37) hx hb dX3_waiting_33 (by decide) ?_
            refine nadd hx hb dX3_waiting_37 ?_
            refine lv_istore_n (lv' := [(2, .int (nI (f + 1))), (0, .ref (q 0)), (1, .int x), (3, .int (nI i))]) hx hb dX3_waiting_38 rfl hl (by decide) rfl (fun ls hl => ?_)
            refine lv_iinc (v := nI (i + 1)) (lv' := [(3, .int (nI (i + 1))), (2, .int (nI (f + 1))), (0, .ref (q 0)), (1, .int x)]) hx hb dX3_waiting_39 hl (k := 3) rfl (by rw [show Int32.ofInt 1 = nI 1 by decide, nI_add]) (by decide) rfl (fun ls hl => ?_)
            refine lv_goto (tgt := 4) hx hb dX3_waiting_42 (by decide) ?_
            exact ih (i + 1) (f + 1) (by omega) (by simp [wcN, hf, c2, c3]) (by omega) _ _ _ hP hD hS (lv_sub hl [2, 3, 1, 0] rfl)
  exact loop4 _ 0 0 (by omega) rfl (Nat.lt_succ_self _) s.heap _ _ hP hD hS (lv_sub hl [2, 3, 1, 0] rfl)
theorem mwX3_client_0 : Cond.constantLong RX3 64 (7) ∈ wsX3_client := by decide +kernel
theorem mwX3_client_1 : Cond.constantLong RX3 73 (12) ∈ wsX3_client := by decide +kernel
theorem mwX3_client_2 : Cond.constantLong RX3 75 (1000) ∈ wsX3_client := by decide +kernel
theorem mwX3_client_3 : Cond.fieldLink RX3 7 "ShareDiskModel" "there" "[Z" ∈ wsX3_client := by decide +kernel
theorem mwX3_client_4 : Cond.fieldLink RX3 13 "ShareDiskModel" "weights" "[I" ∈ wsX3_client := by decide +kernel
theorem mwX3_client_5 : Cond.fieldLink RX3 17 "ShareDiskModel" "budgets" "[I" ∈ wsX3_client := by decide +kernel
theorem mwX3_client_6 : Cond.fieldLink RX3 20 "ShareDiskModel" "tags" "[J" ∈ wsX3_client := by decide +kernel
theorem mwX3_client_7 : Cond.fieldLink RX3 24 "ShareDiskModel" "sectors" "[J" ∈ wsX3_client := by decide +kernel
theorem iwX3_client_X3 : ∀ w ∈ wsX30, w ∈ wsX3_client := by decide +kernel
set_option maxHeartbeats 4000000 in
set_option maxRecDepth 100000 in
theorem kX3_client (l : Launch) (D : va_G) (k : Nat → ClassId) (q : Nat → Nat) (zz : Nat) (tr : Int32) (ck : Int64) (hd : Int32) (po : Int64) (th we bu : Nat → Int32) (tg se gr ba : Nat → Int64) (tn sn un : Nat) (ow fi sz so wr dn ur : Nat → Int32) (dl : Nat → Int64) (sl le : Int32) (x : Int32) (y : Int32) (z : Int32) : MV l yX3_client wsX3_client ({ frames := 1, cells := 0, slots := 0, locals := 25 } : Room) D k (MoW q k tr ck hd po th we bu tg se gr ba tn sn un ow fi sz so wr dn ur dl sl le) zz [.ref (q 0), .int x, .int y, .int z] (fun w9 => (¬ (inw x (nI 0) (nI 7) ∧ inw y (nI 1) (nI 12) ∧ inw z (nI 1) (nI 1000)) ∧ w9 = MoW q k (nI 1) ck hd po th we bu tg se gr ba tn sn un ow fi sz so wr dn ur dl sl le) ∨ ((inw x (nI 0) (nI 7) ∧ inw y (nI 1) (nI 12) ∧ inw z (nI 1) (nI 1000)) ∧ ∃ j, j < 8 ∧ x = nI j ∧ w9 = MoW q k (nI 0) ck hd po (upd th j (nI 1)) (upd we j y) (upd bu j z) (if th j = 0 then vp_updL tg j (tg 8) else tg) (if th j = 0 then vp_updL se j 0 else se) gr ba tn sn un ow fi sz so wr dn ur dl sl le)) 0 0 := by
  refine bodyOf (Qc := fun A => QV D k (fun w9 => (¬ (inw x (nI 0) (nI 7) ∧ inw y (nI 1) (nI 12) ∧ inw z (nI 1) (nI 1000)) ∧ w9 = MoW q k (nI 1) ck hd po th we bu tg se gr ba tn sn un ow fi sz so wr dn ur dl sl le) ∨ ((inw x (nI 0) (nI 7) ∧ inw y (nI 1) (nI 12) ∧ inw z (nI 1) (nI 1000)) ∧ ∃ j, j < 8 ∧ x = nI j ∧ w9 = MoW q k (nI 0) ck hd po (upd th j (nI 1)) (upd we j y) (upd bu j z) (if th j = 0 then vp_updL tg j (tg 8) else tg) (if th j = 0 then vp_updL se j 0 else se) gr ba tn sn un ow fi sz so wr dn ur dl sl le)) A) (cc := cX3_client) (maxL := 4) (ret := none) (by decide) rfl (Nat.le_of_ble_eq_true rfl) ?_
  intro p e s m below meth c A ls hc hA hK hP hD hS hl
  obtain ⟨hx, hb, hml, hr, hts, hown, hlocks, hin⟩ := (show _ from hc)
  have hl : lv_has ls 4 [(0, .ref (q 0)), (1, .int x), (2, .int y), (3, .int z)] := hl
  refine lv_aload_n hx hb dX3_client_0 rfl (lv_at hl 0 rfl) ?_
  refine lv_iload_n hx hb dX3_client_1 rfl (lv_at hl 1 rfl) ?_
  refine lv_i2l (v := x.toInt64) hx hb dX3_client_2 rfl ?_
  refine lv_lconst (v := 0) hx hb dX3_client_3 rfl ?_
  refine lv_ldc2 (v := (7)) hx hb hown (hts (.constantLong RX3 64 (7)) mwX3_client_0) dX3_client_4 ?_
  refine goSI hc (kX3_in l D k s.heap.size x.toInt64 0 (7)) (va_cwS 3 hts gX3_client_X3_in rfl rfl rfl (by decide +kernel) ⟨(Nat.le_of_ble_eq_true rfl), (Nat.le_of_ble_eq_true rfl)⟩) hP hD hK hS hA rfl hl.1 rfl (Nat.le_of_ble_eq_true rfl) dX3_client_7 (Nat.le_of_ble_eq_true rfl) (Nat.le_of_ble_eq_true rfl) (fun r9 B9 H locs hq hP hD hS => ?_)
  obtain ⟨hr9, -⟩ := hq
  subst hr9
  have hP : va_P D vwCl (MoW q k tr ck hd po th we bu tg se gr ba tn sn un ow fi sz so wr dn ur dl sl le) H := hP
  have hD : va_D A (MoW q k tr ck hd po th we bu tg se gr ba tn sn un ow fi sz so wr dn ur dl sl le) := hD
  refine lv_if_eq (tgt := 37) hx hb dX3_client_10 (by decide) (fun c1 => ?_) (fun c1 => ?_)
  · refine lv_iconst (v := nI 1) hx hb dX3_client_37 (by decide) ?_
    refine lv_goto (tgt := 42) hx hb dX3_client_38 (by decide) ?_
    refine lv_iconst (v := nI 0) hx hb dX3_client_42 (by decide) ?_
    refine goVI0 hc (kX3_fails l D k q H.size tr ck hd po th we bu tg se gr ba tn sn un ow fi sz so wr dn ur dl sl le (nI 1) (nI 0)) (cwV 2 hts gX3_client_X3_fails rfl rfl rfl (by decide +kernel) ⟨(Nat.le_of_ble_eq_true rfl), (Nat.le_of_ble_eq_true rfl)⟩) hP hD hK hS hA (ci := 3) (q0 := 0) rfl rfl rfl hl.1 rfl (Nat.le_of_ble_eq_true rfl) dX3_client_43 (Nat.le_of_ble_eq_true rfl) (Nat.le_of_ble_eq_true rfl) (fun r9 B9 H locs hq hP hD hS => ?_)
    obtain ⟨hr9, rfl⟩ := hq
    subst hr9
    have hP : va_P D vwCl (MoW q k (flF (nI 1) (nI 0)) ck hd po th we bu tg se gr ba tn sn un ow fi sz so wr dn ur dl sl le) H := hP
    have hD : va_D A (MoW q k (flF (nI 1) (nI 0)) ck hd po th we bu tg se gr ba tn sn un ow fi sz so wr dn ur dl sl le) := hD
    rw [flF_10] at hP hD
    have hP : va_P D vwCl (MoW q k (nI 1) ck hd po th we bu tg se gr ba tn sn un ow fi sz so wr dn ur dl sl le) H := hP
    have hD : va_D A (MoW q k (nI 1) ck hd po th we bu tg se gr ba tn sn un ow fi sz so wr dn ur dl sl le) := hD
    refine lv_if_eq (tgt := 50) hx hb dX3_client_46 (by decide) (fun c2 => False.elim (bI_0 c2 (by decide))) (fun c2 => ?_)
    exact retV hc dX3_client_49 hK hP hD hS (Or.inl ⟨fun h => bI_0 c1 ((inL (a := 0) (b := 7) (by decide) (by decide) (by decide +kernel) (by decide +kernel)).mpr h.1), rfl⟩) (Nat.le_of_ble_eq_true rfl) (Nat.le_of_ble_eq_true rfl)
  · refine lv_iload_n hx hb dX3_client_13 rfl (lv_at hl 2 rfl) ?_
    refine lv_i2l (v := y.toInt64) hx hb dX3_client_14 rfl ?_
    refine lv_lconst (v := 1) hx hb dX3_client_15 rfl ?_
    refine lv_ldc2 (v := (12)) hx hb hown (hts (.constantLong RX3 73 (12)) mwX3_client_1) dX3_client_16 ?_
    refine goSI hc (kX3_in l D k H.size y.toInt64 1 (12)) (va_cwS 3 hts gX3_client_X3_in rfl rfl rfl (by decide +kernel) ⟨(Nat.le_of_ble_eq_true rfl), (Nat.le_of_ble_eq_true rfl)⟩) hP hD hK hS hA rfl hl.1 rfl (Nat.le_of_ble_eq_true rfl) dX3_client_19 (Nat.le_of_ble_eq_true rfl) (Nat.le_of_ble_eq_true rfl) (fun r9 B9 H locs hq hP hD hS => ?_)
    obtain ⟨hr9, -⟩ := hq
    subst hr9
    have hP : va_P D vwCl (MoW q k tr ck hd po th we bu tg se gr ba tn sn un ow fi sz so wr dn ur dl sl le) H := hP
    have hD : va_D A (MoW q k tr ck hd po th we bu tg se gr ba tn sn un ow fi sz so wr dn ur dl sl le) := hD
    refine lv_if_eq (tgt := 37) hx hb dX3_client_22 (by decide) (fun c3 => ?_) (fun c3 => ?_)
    · refine lv_iconst (v := nI 1) hx hb dX3_client_37 (by decide) ?_
      refine lv_goto (tgt := 42) hx hb dX3_client_38 (by decide) ?_
      refine lv_iconst (v := nI 0) hx hb dX3_client_42 (by decide) ?_
      refine goVI0 hc (kX3_fails l D k q H.size tr ck hd po th we bu tg se gr ba tn sn un ow fi sz so wr dn ur dl sl le (nI 1) (nI 0)) (cwV 2 hts gX3_client_X3_fails rfl rfl rfl (by decide +kernel) ⟨(Nat.le_of_ble_eq_true rfl), (Nat.le_of_ble_eq_true rfl)⟩) hP hD hK hS hA (ci := 3) (q0 := 0) rfl rfl rfl hl.1 rfl (Nat.le_of_ble_eq_true rfl) dX3_client_43 (Nat.le_of_ble_eq_true rfl) (Nat.le_of_ble_eq_true rfl) (fun r9 B9 H locs hq hP hD hS => ?_)
      obtain ⟨hr9, rfl⟩ := hq
      subst hr9
      have hP : va_P D vwCl (MoW q k (flF (nI 1) (nI 0)) ck hd po th we bu tg se gr ba tn sn un ow fi sz so wr dn ur dl sl le) H := hP
      have hD : va_D A (MoW q k (flF (nI 1) (nI 0)) ck hd po th we bu tg se gr ba tn sn un ow fi sz so wr dn ur dl sl le) := hD
      rw [flF_10] at hP hD
      have hP : va_P D vwCl (MoW q k (nI 1) ck hd po th we bu tg se gr ba tn sn un ow fi sz so wr dn ur dl sl le) H := hP
      have hD : va_D A (MoW q k (nI 1) ck hd po th we bu tg se gr ba tn sn un ow fi sz so wr dn ur dl sl le) := hD
      refine lv_if_eq (tgt := 50) hx hb dX3_client_46 (by decide) (fun c4 => False.elim (bI_0 c4 (by decide))) (fun c4 => ?_)
      exact retV hc dX3_client_49 hK hP hD hS (Or.inl ⟨fun h => bI_0 c3 ((inL (a := 1) (b := 12) (by decide) (by decide) (by decide +kernel) (by decide +kernel)).mpr h.2.1), rfl⟩) (Nat.le_of_ble_eq_true rfl) (Nat.le_of_ble_eq_true rfl)
    · refine lv_iload_n hx hb dX3_client_25 rfl (lv_at hl 3 rfl) ?_
      refine lv_i2l (v := z.toInt64) hx hb dX3_client_26 rfl ?_
      refine lv_lconst (v := 1) hx hb dX3_client_27 rfl ?_
      refine lv_ldc2 (v := (1000)) hx hb hown (hts (.constantLong RX3 75 (1000)) mwX3_client_2) dX3_client_28 ?_
      refine goSI hc (kX3_in l D k H.size z.toInt64 1 (1000)) (va_cwS 3 hts gX3_client_X3_in rfl rfl rfl (by decide +kernel) ⟨(Nat.le_of_ble_eq_true rfl), (Nat.le_of_ble_eq_true rfl)⟩) hP hD hK hS hA rfl hl.1 rfl (Nat.le_of_ble_eq_true rfl) dX3_client_31 (Nat.le_of_ble_eq_true rfl) (Nat.le_of_ble_eq_true rfl) (fun r9 B9 H locs hq hP hD hS => ?_)
      obtain ⟨hr9, -⟩ := hq
      subst hr9
      have hP : va_P D vwCl (MoW q k tr ck hd po th we bu tg se gr ba tn sn un ow fi sz so wr dn ur dl sl le) H := hP
      have hD : va_D A (MoW q k tr ck hd po th we bu tg se gr ba tn sn un ow fi sz so wr dn ur dl sl le) := hD
      refine lv_if_ne (tgt := 41) hx hb dX3_client_34 (by decide) (fun c5 => ?_) (fun c5 => ?_)
      · have hx9 := (inL (a := 0) (b := 7) (by decide) (by decide) (by decide +kernel) (by decide +kernel)).mp (bI_1 c1)
        have hy9 := (inL (a := 1) (b := 12) (by decide) (by decide) (by decide +kernel) (by decide +kernel)).mp (bI_1 c3)
        have hz9 := (inL (a := 1) (b := 1000) (by decide) (by decide) (by decide +kernel) (by decide +kernel)).mp (bI_1 c5)
        obtain ⟨j, hj, rfl⟩ := ofW hx9 (by decide)
        refine lv_iconst (v := nI 0) hx hb dX3_client_41 (by decide) ?_
        refine lv_iconst (v := nI 0) hx hb dX3_client_42 (by decide) ?_
        refine goVI0 hc (kX3_fails l D k q H.size tr ck hd po th we bu tg se gr ba tn sn un ow fi sz so wr dn ur dl sl le (nI 0) (nI 0)) (cwV 2 hts gX3_client_X3_fails rfl rfl rfl (by decide +kernel) ⟨(Nat.le_of_ble_eq_true rfl), (Nat.le_of_ble_eq_true rfl)⟩) hP hD hK hS hA (ci := 3) (q0 := 0) rfl rfl rfl hl.1 rfl (Nat.le_of_ble_eq_true rfl) dX3_client_43 (Nat.le_of_ble_eq_true rfl) (Nat.le_of_ble_eq_true rfl) (fun r9 B9 H locs hq hP hD hS => ?_)
        obtain ⟨hr9, rfl⟩ := hq
        subst hr9
        have hP : va_P D vwCl (MoW q k (flF (nI 0) (nI 0)) ck hd po th we bu tg se gr ba tn sn un ow fi sz so wr dn ur dl sl le) H := hP
        have hD : va_D A (MoW q k (flF (nI 0) (nI 0)) ck hd po th we bu tg se gr ba tn sn un ow fi sz so wr dn ur dl sl le) := hD
        rw [flF_00] at hP hD
        have hP : va_P D vwCl (MoW q k (nI 0) ck hd po th we bu tg se gr ba tn sn un ow fi sz so wr dn ur dl sl le) H := hP
        have hD : va_D A (MoW q k (nI 0) ck hd po th we bu tg se gr ba tn sn un ow fi sz so wr dn ur dl sl le) := hD
        refine lv_if_eq (tgt := 50) hx hb dX3_client_46 (by decide) (fun c6 => ?_) (fun c6 => False.elim (bI_1 c6 ⟨by decide, by decide⟩))
        refine lv_aload_n hx hb dX3_client_50 rfl (lv_at hl 0 rfl) ?_
        refine va_get (D := D) (ci := 3) (v := .ref (q 1)) (C := RX3) (T := TX3) (N := 24) hx hb hts iwX3_client_X3 hown hK hP 0 rfl rfl 4 (by decide) (hts (Cond.fieldLink RX3 7 "ShareDiskModel" "there" "[Z") mwX3_client_3) (fun _ h9 => h9) rfl dX3_client_51 ?_
        refine lv_iload_n hx hb dX3_client_54 rfl (lv_at hl 1 rfl) ?_
        refine aZ hx hb hK hP 1 0 rfl rfl (ix8 (by omega)) dX3_client_55 ?_
        refine lv_if_ne (tgt := 79) hx hb dX3_client_56 (by decide) (fun c7 => ?_) (fun c7 => ?_)
        · refine lv_aload_n hx hb dX3_client_79 rfl (lv_at hl 0 rfl) ?_
          refine va_get (D := D) (ci := 3) (v := .ref (q 1)) (C := RX3) (T := TX3) (N := 24) hx hb hts iwX3_client_X3 hown hK hP 0 rfl rfl 4 (by decide) (hts (Cond.fieldLink RX3 7 "ShareDiskModel" "there" "[Z") mwX3_client_3) (fun _ h9 => h9) rfl dX3_client_80 ?_
          refine lv_iload_n hx hb dX3_client_83 rfl (lv_at hl 1 rfl) ?_
          refine lv_iconst (v := nI 1) hx hb dX3_client_84 (by decide) ?_
          refine sZ hx hb hK hP hD hS 1 0 rfl rfl (ix8 (by omega)) (Or.inr rfl) dX3_client_85 (fun H locs hP hD hS => ?_)
          have hP : va_P D vwCl (MoW q k (nI 0) ck hd po (upd th j (nI 1)) we bu tg se gr ba tn sn un ow fi sz so wr dn ur dl sl le) H := hP
          have hD : va_D A (MoW q k (nI 0) ck hd po (upd th j (nI 1)) we bu tg se gr ba tn sn un ow fi sz so wr dn ur dl sl le) := hD
          refine lv_aload_n hx hb dX3_client_86 rfl (lv_at hl 0 rfl) ?_
          refine va_get (D := D) (ci := 3) (v := .ref (q 2)) (C := RX3) (T := TX3) (N := 24) hx hb hts iwX3_client_X3 hown hK hP 0 rfl rfl 5 (by decide) (hts (Cond.fieldLink RX3 13 "ShareDiskModel" "weights" "[I") mwX3_client_4) (fun _ h9 => h9) rfl dX3_client_87 ?_
          refine lv_iload_n hx hb dX3_client_90 rfl (lv_at hl 1 rfl) ?_
          refine lv_iload_n hx hb dX3_client_91 rfl (lv_at hl 2 rfl) ?_
          refine sI hx hb hK hP hD hS 2 1 rfl rfl (ix8 (by omega)) dX3_client_92 (fun H locs hP hD hS => ?_)
          have hP : va_P D vwCl (MoW q k (nI 0) ck hd po (upd th j (nI 1)) (upd we j y) bu tg se gr ba tn sn un ow fi sz so wr dn ur dl sl le) H := hP
          have hD : va_D A (MoW q k (nI 0) ck hd po (upd th j (nI 1)) (upd we j y) bu tg se gr ba tn sn un ow fi sz so wr dn ur dl sl le) := hD
          refine lv_aload_n hx hb dX3_client_93 rfl (lv_at hl 0 rfl) ?_
          refine va_get (D := D) (ci := 3) (v := .ref (q 3)) (C := RX3) (T := TX3) (N := 24) hx hb hts iwX3_client_X3 hown hK hP 0 rfl rfl 6 (by decide) (hts (Cond.fieldLink RX3 17 "ShareDiskModel" "budgets" "[I") mwX3_client_5) (fun _ h9 => h9) rfl dX3_client_94 ?_
          refine lv_iload_n hx hb dX3_client_97 rfl (lv_at hl 1 rfl) ?_
          refine lv_iload_n hx hb dX3_client_98 rfl (lv_at hl 3 rfl) ?_
          refine sI hx hb hK hP hD hS 3 1 rfl rfl (ix8 (by omega)) dX3_client_99 (fun H locs hP hD hS => ?_)
          have hP : va_P D vwCl (MoW q k (nI 0) ck hd po (upd th j (nI 1)) (upd we j y) (upd bu j z) tg se gr ba tn sn un ow fi sz so wr dn ur dl sl le) H := hP
          have hD : va_D A (MoW q k (nI 0) ck hd po (upd th j (nI 1)) (upd we j y) (upd bu j z) tg se gr ba tn sn un ow fi sz so wr dn ur dl sl le) := hD
          exact retV hc dX3_client_100 hK hP hD hS (Or.inr ⟨⟨hx9, hy9, hz9⟩, j, by omega, rfl, by rw [if_neg c7, if_neg c7]⟩) (Nat.le_of_ble_eq_true rfl) (Nat.le_of_ble_eq_true rfl)
        · refine lv_aload_n hx hb dX3_client_59 rfl (lv_at hl 0 rfl) ?_
          refine va_get (D := D) (ci := 3) (v := .ref (q 4)) (C := RX3) (T := TX3) (N := 24) hx hb hts iwX3_client_X3 hown hK hP 0 rfl rfl 7 (by decide) (hts (Cond.fieldLink RX3 20 "ShareDiskModel" "tags" "[J") mwX3_client_6) (fun _ h9 => h9) rfl dX3_client_60 ?_
          refine lv_iload_n hx hb dX3_client_63 rfl (lv_at hl 1 rfl) ?_
          refine lv_aload_n hx hb dX3_client_64 rfl (lv_at hl 0 rfl) ?_
          refine va_get (D := D) (ci := 3) (v := .ref (q 4)) (C := RX3) (T := TX3) (N := 24) hx hb hts iwX3_client_X3 hown hK hP 0 rfl rfl 7 (by decide) (hts (Cond.fieldLink RX3 20 "ShareDiskModel" "tags" "[J") mwX3_client_6) (fun _ h9 => h9) rfl dX3_client_65 ?_
          refine lv_bipush (v := nI 8) hx hb dX3_client_68 (by decide) ?_
          refine aJ hx hb hK hP 4 2 rfl rfl (ix9 (by decide)) dX3_client_70 ?_
          refine sJ hx hb hK hP hD hS 4 2 rfl rfl (ix9 (by omega)) dX3_client_71 (fun H locs hP hD hS => ?_)
          have hP : va_P D vwCl (MoW q k (nI 0) ck hd po th we bu (vp_updL tg j (tg 8)) se gr ba tn sn un ow fi sz so wr dn ur dl sl le) H := hP
          have hD : va_D A (MoW q k (nI 0) ck hd po th we bu (vp_updL tg j (tg 8)) se gr ba tn sn un ow fi sz so wr dn ur dl sl le) := hD
          refine lv_aload_n hx hb dX3_client_72 rfl (lv_at hl 0 rfl) ?_
          refine va_get (D := D) (ci := 3) (v := .ref (q 5)) (C := RX3) (T := TX3) (N := 24) hx hb hts iwX3_client_X3 hown hK hP 0 rfl rfl 8 (by decide) (hts (Cond.fieldLink RX3 24 "ShareDiskModel" "sectors" "[J") mwX3_client_7) (fun _ h9 => h9) rfl dX3_client_73 ?_
          refine lv_iload_n hx hb dX3_client_76 rfl (lv_at hl 1 rfl) ?_
          refine lv_lconst (v := 0) hx hb dX3_client_77 rfl ?_
          refine sJ hx hb hK hP hD hS 5 2 rfl rfl (ix8 (by omega)) dX3_client_78 (fun H locs hP hD hS => ?_)
          have hP : va_P D vwCl (MoW q k (nI 0) ck hd po th we bu (vp_updL tg j (tg 8)) (vp_updL se j 0) gr ba tn sn un ow fi sz so wr dn ur dl sl le) H := hP
          have hD : va_D A (MoW q k (nI 0) ck hd po th we bu (vp_updL tg j (tg 8)) (vp_updL se j 0) gr ba tn sn un ow fi sz so wr dn ur dl sl le) := hD
          refine lv_aload_n hx hb dX3_client_79 rfl (lv_at hl 0 rfl) ?_
          refine va_get (D := D) (ci := 3) (v := .ref (q 1)) (C := RX3) (T := TX3) (N := 24) hx hb hts iwX3_client_X3 hown hK hP 0 rfl rfl 4 (by decide) (hts (Cond.fieldLink RX3 7 "ShareDiskModel" "there" "[Z") mwX3_client_3) (fun _ h9 => h9) rfl dX3_client_80 ?_
          refine lv_iload_n hx hb dX3_client_83 rfl (lv_at hl 1 rfl) ?_
          refine lv_iconst (v := nI 1) hx hb dX3_client_84 (by decide) ?_
          refine sZ hx hb hK hP hD hS 1 0 rfl rfl (ix8 (by omega)) (Or.inr rfl) dX3_client_85 (fun H locs hP hD hS => ?_)
          have hP : va_P D vwCl (MoW q k (nI 0) ck hd po (upd th j (nI 1)) we bu (vp_updL tg j (tg 8)) (vp_updL se j 0) gr ba tn sn un ow fi sz so wr dn ur dl sl le) H := hP
          have hD : va_D A (MoW q k (nI 0) ck hd po (upd th j (nI 1)) we bu (vp_updL tg j (tg 8)) (vp_updL se j 0) gr ba tn sn un ow fi sz so wr dn ur dl sl le) := hD
          refine lv_aload_n hx hb dX3_client_86 rfl (lv_at hl 0 rfl) ?_
          refine va_get (D := D) (ci := 3) (v := .ref (q 2)) (C := RX3) (T := TX3) (N := 24) hx hb hts iwX3_client_X3 hown hK hP 0 rfl rfl 5 (by decide) (hts (Cond.fieldLink RX3 13 "ShareDiskModel" "weights" "[I") mwX3_client_4) (fun _ h9 => h9) rfl dX3_client_87 ?_
          refine lv_iload_n hx hb dX3_client_90 rfl (lv_at hl 1 rfl) ?_
          refine lv_iload_n hx hb dX3_client_91 rfl (lv_at hl 2 rfl) ?_
          refine sI hx hb hK hP hD hS 2 1 rfl rfl (ix8 (by omega)) dX3_client_92 (fun H locs hP hD hS => ?_)
          have hP : va_P D vwCl (MoW q k (nI 0) ck hd po (upd th j (nI 1)) (upd we j y) bu (vp_updL tg j (tg 8)) (vp_updL se j 0) gr ba tn sn un ow fi sz so wr dn ur dl sl le) H := hP
          have hD : va_D A (MoW q k (nI 0) ck hd po (upd th j (nI 1)) (upd we j y) bu (vp_updL tg j (tg 8)) (vp_updL se j 0) gr ba tn sn un ow fi sz so wr dn ur dl sl le) := hD
          refine lv_aload_n hx hb dX3_client_93 rfl (lv_at hl 0 rfl) ?_
          refine va_get (D := D) (ci := 3) (v := .ref (q 3)) (C := RX3) (T := TX3) (N := 24) hx hb hts iwX3_client_X3 hown hK hP 0 rfl rfl 6 (by decide) (hts (Cond.fieldLink RX3 17 "ShareDiskModel" "budgets" "[I") mwX3_client_5) (fun _ h9 => h9) rfl dX3_client_94 ?_
          refine lv_iload_n hx hb dX3_client_97 rfl (lv_at hl 1 rfl) ?_
          refine lv_iload_n hx hb dX3_client_98 rfl (lv_at hl 3 rfl) ?_
          refine sI hx hb hK hP hD hS 3 1 rfl rfl (ix8 (by omega)) dX3_client_99 (fun H locs hP hD hS => ?_)
          have hP : va_P D vwCl (MoW q k (nI 0) ck hd po (upd th j (nI 1)) (upd we j y) (upd bu j z) (vp_updL tg j (tg 8)) (vp_updL se j 0) gr ba tn sn un ow fi sz so wr dn ur dl sl le) H := hP
          have hD : va_D A (MoW q k (nI 0) ck hd po (upd th j (nI 1)) (upd we j y) (upd bu j z) (vp_updL tg j (tg 8)) (vp_updL se j 0) gr ba tn sn un ow fi sz so wr dn ur dl sl le) := hD
          exact retV hc dX3_client_100 hK hP hD hS (Or.inr ⟨⟨hx9, hy9, hz9⟩, j, by omega, rfl, by rw [if_pos c7, if_pos c7]⟩) (Nat.le_of_ble_eq_true rfl) (Nat.le_of_ble_eq_true rfl)
      · refine lv_iconst (v := nI 1) hx hb dX3_client_37 (by decide) ?_
        refine lv_goto (tgt := 42) hx hb dX3_client_38 (by decide) ?_
        refine lv_iconst (v := nI 0) hx hb dX3_client_42 (by decide) ?_
        refine goVI0 hc (kX3_fails l D k q H.size tr ck hd po th we bu tg se gr ba tn sn un ow fi sz so wr dn ur dl sl le (nI 1) (nI 0)) (cwV 2 hts gX3_client_X3_fails rfl rfl rfl (by decide +kernel) ⟨(Nat.le_of_ble_eq_true rfl), (Nat.le_of_ble_eq_true rfl)⟩) hP hD hK hS hA (ci := 3) (q0 := 0) rfl rfl rfl hl.1 rfl (Nat.le_of_ble_eq_true rfl) dX3_client_43 (Nat.le_of_ble_eq_true rfl) (Nat.le_of_ble_eq_true rfl) (fun r9 B9 H locs hq hP hD hS => ?_)
        obtain ⟨hr9, rfl⟩ := hq
        subst hr9
        have hP : va_P D vwCl (MoW q k (flF (nI 1) (nI 0)) ck hd po th we bu tg se gr ba tn sn un ow fi sz so wr dn ur dl sl le) H := hP
        have hD : va_D A (MoW q k (flF (nI 1) (nI 0)) ck hd po th we bu tg se gr ba tn sn un ow fi sz so wr dn ur dl sl le) := hD
        rw [flF_10] at hP hD
        have hP : va_P D vwCl (MoW q k (nI 1) ck hd po th we bu tg se gr ba tn sn un ow fi sz so wr dn ur dl sl le) H := hP
        have hD : va_D A (MoW q k (nI 1) ck hd po th we bu tg se gr ba tn sn un ow fi sz so wr dn ur dl sl le) := hD
        refine lv_if_eq (tgt := 50) hx hb dX3_client_46 (by decide) (fun c8 => False.elim (bI_0 c8 (by decide))) (fun c8 => ?_)
        exact retV hc dX3_client_49 hK hP hD hS (Or.inl ⟨fun h => bI_0 c5 ((inL (a := 1) (b := 1000) (by decide) (by decide) (by decide +kernel) (by decide +kernel)).mpr h.2.2), rfl⟩) (Nat.le_of_ble_eq_true rfl) (Nat.le_of_ble_eq_true rfl)
theorem mwX3_end_0 : Cond.fieldLink RX3 57 "ShareDiskModel" "slice" "I" ∈ wsX3_end := by decide +kernel
theorem mwX3_end_1 : Cond.fieldLink RX3 92 "ShareDiskModel" "left" "I" ∈ wsX3_end := by decide +kernel
theorem iwX3_end_X3 : ∀ w ∈ wsX30, w ∈ wsX3_end := by decide +kernel
set_option maxHeartbeats 4000000 in
set_option maxRecDepth 100000 in
theorem kX3_end (l : Launch) (D : va_G) (k : Nat → ClassId) (q : Nat → Nat) (zz : Nat) (tr : Int32) (ck : Int64) (hd : Int32) (po : Int64) (th we bu : Nat → Int32) (tg se gr ba : Nat → Int64) (tn sn un : Nat) (ow fi sz so wr dn ur : Nat → Int32) (dl : Nat → Int64) (sl le : Int32) : MV l yX3_end wsX3_end ({ frames := 0, cells := 0, slots := 0, locals := 0 } : Room) D k (MoW q k tr ck hd po th we bu tg se gr ba tn sn un ow fi sz so wr dn ur dl sl le) zz [.ref (q 0)] (fun w9 => w9 = MoW q k tr ck hd po th we bu tg se gr ba tn sn un ow fi sz so wr dn ur dl (-1) (nI 0)) 0 0 := by
  refine bodyOf (Qc := fun A => QV D k (fun w9 => w9 = MoW q k tr ck hd po th we bu tg se gr ba tn sn un ow fi sz so wr dn ur dl (-1) (nI 0)) A) (cc := cX3_end) (maxL := 1) (ret := none) (by decide) rfl (Nat.le_of_ble_eq_true rfl) ?_
  intro p e s m below meth c A ls hc hA hK hP hD hS hl
  obtain ⟨hx, hb, hml, hr, hts, hown, hlocks, hin⟩ := (show _ from hc)
  have hl : lv_has ls 1 [(0, .ref (q 0))] := hl
  refine lv_aload_n hx hb dX3_end_0 rfl (lv_at hl 0 rfl) ?_
  refine lv_iconst (v := (-1)) hx hb dX3_end_1 (by decide) ?_
  refine va_put (D := D) (ci := 3) (v := .int (-1)) (ty := .int) (C := RX3) (T := TX3) (N := 24) hx hb hts iwX3_end_X3 tyX3 tyX3_ok nmX3 hown hK hP hD hS 0 rfl rfl 22 (by decide) (hts (Cond.fieldLink RX3 57 "ShareDiskModel" "slice" "I") mwX3_end_0) (fun _ h9 => h9) rfl (by decide +kernel) rfl rfl (Nat.le_of_ble_eq_true rfl) dX3_end_2 (fun H locs hP hD hS => ?_)
  have hP : va_P D vwCl (MoW q k tr ck hd po th we bu tg se gr ba tn sn un ow fi sz so wr dn ur dl (-1) le) H := hP
  have hD : va_D A (MoW q k tr ck hd po th we bu tg se gr ba tn sn un ow fi sz so wr dn ur dl (-1) le) := hD
  refine lv_aload_n hx hb dX3_end_5 rfl (lv_at hl 0 rfl) ?_
  refine lv_iconst (v := nI 0) hx hb dX3_end_6 (by decide) ?_
  refine va_put (D := D) (ci := 3) (v := .int (nI 0)) (ty := .int) (C := RX3) (T := TX3) (N := 24) hx hb hts iwX3_end_X3 tyX3 tyX3_ok nmX3 hown hK hP hD hS 0 rfl rfl 23 (by decide) (hts (Cond.fieldLink RX3 92 "ShareDiskModel" "left" "I") mwX3_end_1) (fun _ h9 => h9) rfl (by decide +kernel) rfl rfl (Nat.le_of_ble_eq_true rfl) dX3_end_7 (fun H locs hP hD hS => ?_)
  have hP : va_P D vwCl (MoW q k tr ck hd po th we bu tg se gr ba tn sn un ow fi sz so wr dn ur dl (-1) (nI 0)) H := hP
  have hD : va_D A (MoW q k tr ck hd po th we bu tg se gr ba tn sn un ow fi sz so wr dn ur dl (-1) (nI 0)) := hD
  exact retV hc dX3_end_10 hK hP hD hS (rfl) (Nat.le_of_ble_eq_true rfl) (Nat.le_of_ble_eq_true rfl)
theorem mwX3_gone_0 : Cond.fieldLink RX3 7 "ShareDiskModel" "there" "[Z" ∈ wsX3_gone := by decide +kernel
theorem mwX3_gone_1 : Cond.fieldLink RX3 24 "ShareDiskModel" "sectors" "[J" ∈ wsX3_gone := by decide +kernel
theorem mwX3_gone_2 : Cond.fieldLink RX3 57 "ShareDiskModel" "slice" "I" ∈ wsX3_gone := by decide +kernel
theorem iwX3_gone_X3 : ∀ w ∈ wsX30, w ∈ wsX3_gone := by decide +kernel
set_option maxHeartbeats 4000000 in
set_option maxRecDepth 100000 in
theorem kX3_gone (l : Launch) (D : va_G) (k : Nat → ClassId) (q : Nat → Nat) (zz : Nat) (tr : Int32) (ck : Int64) (hd : Int32) (po : Int64) (th we bu : Nat → Int32) (tg se gr ba : Nat → Int64) (tn sn un : Nat) (ow fi sz so wr dn ur : Nat → Int32) (dl : Nat → Int64) (sl le : Int32) (x : Int32) (htn : tn ≤ 500) : MV l yX3_gone wsX3_gone ({ frames := 2, cells := 0, slots := 0, locals := 46 } : Room) D k (MoW q k tr ck hd po th we bu tg se gr ba tn sn un ow fi sz so wr dn ur dl sl le) zz [.ref (q 0), .int x] (fun w9 => (¬ isT th x ∧ w9 = MoW q k (nI 1) ck hd po th we bu tg se gr ba tn sn un ow fi sz so wr dn ur dl sl le) ∨ ∃ j, j < 8 ∧ x = nI j ∧ ¬ th j = 0 ∧ ((¬ wcI dn ow tn j ≤ 0 ∧ w9 = MoW q k (nI 2) ck hd po th we bu tg se gr ba tn sn un ow fi sz so wr dn ur dl sl le) ∨ (wcI dn ow tn j ≤ 0 ∧ w9 = MoW q k (nI 0) ck hd po (upd th j (nI 0)) we bu tg (vp_updL se j 0) gr ba tn sn un ow fi sz so wr dn ur dl (if sl = nI j then (-1) else sl) (if sl = nI j then nI 0 else le)))) 0 0 := by
  refine bodyOf (Qc := fun A => QV D k (fun w9 => (¬ isT th x ∧ w9 = MoW q k (nI 1) ck hd po th we bu tg se gr ba tn sn un ow fi sz so wr dn ur dl sl le) ∨ ∃ j, j < 8 ∧ x = nI j ∧ ¬ th j = 0 ∧ ((¬ wcI dn ow tn j ≤ 0 ∧ w9 = MoW q k (nI 2) ck hd po th we bu tg se gr ba tn sn un ow fi sz so wr dn ur dl sl le) ∨ (wcI dn ow tn j ≤ 0 ∧ w9 = MoW q k (nI 0) ck hd po (upd th j (nI 0)) we bu tg (vp_updL se j 0) gr ba tn sn un ow fi sz so wr dn ur dl (if sl = nI j then (-1) else sl) (if sl = nI j then nI 0 else le)))) A) (cc := cX3_gone) (maxL := 2) (ret := none) (by decide) rfl (Nat.le_of_ble_eq_true rfl) ?_
  intro p e s m below meth c A ls hc hA hK hP hD hS hl
  obtain ⟨hx, hb, hml, hr, hts, hown, hlocks, hin⟩ := (show _ from hc)
  have hl : lv_has ls 2 [(0, .ref (q 0)), (1, .int x)] := hl
  refine lv_aload_n hx hb dX3_gone_0 rfl (lv_at hl 0 rfl) ?_
  refine lv_aload_n hx hb dX3_gone_1 rfl (lv_at hl 0 rfl) ?_
  refine lv_iload_n hx hb dX3_gone_2 rfl (lv_at hl 1 rfl) ?_
  refine goVI0 hc (kX3_isThere l D k q s.heap.size tr ck hd po th we bu tg se gr ba tn sn un ow fi sz so wr dn ur dl sl le x) (cwV 1 hts gX3_gone_X3_isThere rfl rfl rfl (by decide +kernel) ⟨(Nat.le_of_ble_eq_true rfl), (Nat.le_of_ble_eq_true rfl)⟩) hP hD hK hS hA (ci := 3) (q0 := 0) rfl rfl rfl hl.1 rfl (Nat.le_of_ble_eq_true rfl) dX3_gone_3 (Nat.le_of_ble_eq_true rfl) (Nat.le_of_ble_eq_true rfl) (fun r9 B9 H locs hq hP hD hS => ?_)
  obtain ⟨hr9, rfl⟩ := hq
  subst hr9
  have hP : va_P D vwCl (MoW q k tr ck hd po th we bu tg se gr ba tn sn un ow fi sz so wr dn ur dl sl le) H := hP
  have hD : va_D A (MoW q k tr ck hd po th we bu tg se gr ba tn sn un ow fi sz so wr dn ur dl sl le) := hD
  refine lv_if_ne (tgt := 13) hx hb dX3_gone_6 (by decide) (fun c1 => ?_) (fun c1 => ?_)
  · obtain ⟨j, hj, rfl, hthj⟩ := thB_isT.mp (bI_1 c1)
    refine lv_iconst (v := nI 0) hx hb dX3_gone_13 (by decide) ?_
    refine lv_aload_n hx hb dX3_gone_14 rfl (lv_at hl 0 rfl) ?_
    refine lv_iload_n hx hb dX3_gone_15 rfl (lv_at hl 1 rfl) ?_
    refine goVI0 hc (kX3_isThere l D k q H.size tr ck hd po th we bu tg se gr ba tn sn un ow fi sz so wr dn ur dl sl le (nI j)) (cwV 1 hts gX3_gone_X3_isThere rfl rfl rfl (by decide +kernel) ⟨(Nat.le_of_ble_eq_true rfl), (Nat.le_of_ble_eq_true rfl)⟩) hP hD hK hS hA (ci := 3) (q0 := 0) rfl rfl rfl hl.1 rfl (Nat.le_of_ble_eq_true rfl) dX3_gone_16 (Nat.le_of_ble_eq_true rfl) (Nat.le_of_ble_eq_true rfl) (fun r9 B9 H locs hq hP hD hS => ?_)
    obtain ⟨hr9, rfl⟩ := hq
    subst hr9
    have hP : va_P D vwCl (MoW q k tr ck hd po th we bu tg se gr ba tn sn un ow fi sz so wr dn ur dl sl le) H := hP
    have hD : va_D A (MoW q k tr ck hd po th we bu tg se gr ba tn sn un ow fi sz so wr dn ur dl sl le) := hD
    refine lv_if_eq (tgt := 34) hx hb dX3_gone_19 (by decide) (fun c2 => False.elim (c1 c2)) (fun c2 => ?_)
    refine lv_aload_n hx hb dX3_gone_22 rfl (lv_at hl 0 rfl) ?_
    refine lv_iload_n hx hb dX3_gone_23 rfl (lv_at hl 1 rfl) ?_
    refine goVI0 hc (kX3_waiting l D k q H.size tr ck hd po th we bu tg se gr ba tn sn un ow fi sz so wr dn ur dl sl le (nI j) (htn)) (cwV 1 hts gX3_gone_X3_waiting rfl rfl rfl (by decide +kernel) ⟨(Nat.le_of_ble_eq_true rfl), (Nat.le_of_ble_eq_true rfl)⟩) hP hD hK hS hA (ci := 3) (q0 := 0) rfl rfl rfl hl.1 rfl (Nat.le_of_ble_eq_true rfl) dX3_gone_24 (Nat.le_of_ble_eq_true rfl) (Nat.le_of_ble_eq_true rfl) (fun r9 B9 H locs hq hP hD hS => ?_)
    obtain ⟨hr9, rfl⟩ := hq
    subst hr9
    have hP : va_P D vwCl (MoW q k tr ck hd po th we bu tg se gr ba tn sn un ow fi sz so wr dn ur dl sl le) H := hP
    have hD : va_D A (MoW q k tr ck hd po th we bu tg se gr ba tn sn un ow fi sz so wr dn ur dl sl le) := hD
    refine lv_if_le (tgt := 34) hx hb dX3_gone_27 (by decide) (fun c3 => ?_) (fun c3 => ?_)
    · refine lv_iconst (v := nI 0) hx hb dX3_gone_34 (by decide) ?_
      refine goVI0 hc (kX3_fails l D k q H.size tr ck hd po th we bu tg se gr ba tn sn un ow fi sz so wr dn ur dl sl le (nI 0) (nI 0)) (cwV 2 hts gX3_gone_X3_fails rfl rfl rfl (by decide +kernel) ⟨(Nat.le_of_ble_eq_true rfl), (Nat.le_of_ble_eq_true rfl)⟩) hP hD hK hS hA (ci := 3) (q0 := 0) rfl rfl rfl hl.1 rfl (Nat.le_of_ble_eq_true rfl) dX3_gone_35 (Nat.le_of_ble_eq_true rfl) (Nat.le_of_ble_eq_true rfl) (fun r9 B9 H locs hq hP hD hS => ?_)
      obtain ⟨hr9, rfl⟩ := hq
      subst hr9
      have hP : va_P D vwCl (MoW q k (flF (nI 0) (nI 0)) ck hd po th we bu tg se gr ba tn sn un ow fi sz so wr dn ur dl sl le) H := hP
      have hD : va_D A (MoW q k (flF (nI 0) (nI 0)) ck hd po th we bu tg se gr ba tn sn un ow fi sz so wr dn ur dl sl le) := hD
      rw [flF_00] at hP hD
      have hP : va_P D vwCl (MoW q k (nI 0) ck hd po th we bu tg se gr ba tn sn un ow fi sz so wr dn ur dl sl le) H := hP
      have hD : va_D A (MoW q k (nI 0) ck hd po th we bu tg se gr ba tn sn un ow fi sz so wr dn ur dl sl le) := hD
      refine lv_if_eq (tgt := 42) hx hb dX3_gone_38 (by decide) (fun c4 => ?_) (fun c4 => False.elim (bI_1 c4 ⟨by decide, by decide⟩))
      refine lv_aload_n hx hb dX3_gone_42 rfl (lv_at hl 0 rfl) ?_
      refine va_get (D := D) (ci := 3) (v := .ref (q 1)) (C := RX3) (T := TX3) (N := 24) hx hb hts iwX3_gone_X3 hown hK hP 0 rfl rfl 4 (by decide) (hts (Cond.fieldLink RX3 7 "ShareDiskModel" "there" "[Z") mwX3_gone_0) (fun _ h9 => h9) rfl dX3_gone_43 ?_
      refine lv_iload_n hx hb dX3_gone_46 rfl (lv_at hl 1 rfl) ?_
      refine lv_iconst (v := nI 0) hx hb dX3_gone_47 (by decide) ?_
      refine sZ hx hb hK hP hD hS 1 0 rfl rfl (ix8 hj) (Or.inl rfl) dX3_gone_48 (fun H locs hP hD hS => ?_)
      have hP : va_P D vwCl (MoW q k (nI 0) ck hd po (upd th j (nI 0)) we bu tg se gr ba tn sn un ow fi sz so wr dn ur dl sl le) H := hP
      have hD : va_D A (MoW q k (nI 0) ck hd po (upd th j (nI 0)) we bu tg se gr ba tn sn un ow fi sz so wr dn ur dl sl le) := hD
      refine lv_aload_n hx hb dX3_gone_49 rfl (lv_at hl 0 rfl) ?_
      refine va_get (D := D) (ci := 3) (v := .ref (q 5)) (C := RX3) (T := TX3) (N := 24) hx hb hts iwX3_gone_X3 hown hK hP 0 rfl rfl 8 (by decide) (hts (Cond.fieldLink RX3 24 "ShareDiskModel" "sectors" "[J") mwX3_gone_1) (fun _ h9 => h9) rfl dX3_gone_50 ?_
      refine lv_iload_n hx hb dX3_gone_53 rfl (lv_at hl 1 rfl) ?_
      refine lv_lconst (v := 0) hx hb dX3_gone_54 rfl ?_
      refine sJ hx hb hK hP hD hS 5 2 rfl rfl (ix8 hj) dX3_gone_55 (fun H locs hP hD hS => ?_)
      have hP : va_P D vwCl (MoW q k (nI 0) ck hd po (upd th j (nI 0)) we bu tg (vp_updL se j 0) gr ba tn sn un ow fi sz so wr dn ur dl sl le) H := hP
      have hD : va_D A (MoW q k (nI 0) ck hd po (upd th j (nI 0)) we bu tg (vp_updL se j 0) gr ba tn sn un ow fi sz so wr dn ur dl sl le) := hD
      refine lv_aload_n hx hb dX3_gone_56 rfl (lv_at hl 0 rfl) ?_
      refine va_get (D := D) (ci := 3) (v := .int sl) (C := RX3) (T := TX3) (N := 24) hx hb hts iwX3_gone_X3 hown hK hP 0 rfl rfl 22 (by decide) (hts (Cond.fieldLink RX3 57 "ShareDiskModel" "slice" "I") mwX3_gone_2) (fun _ h9 => h9) rfl dX3_gone_57 ?_
      refine lv_iload_n hx hb dX3_gone_60 rfl (lv_at hl 1 rfl) ?_
      refine lv_icmp_ne (tgt := 68) hx hb dX3_gone_61 (by decide) (fun c5 => ?_) (fun c5 => ?_)
      · exact retV hc dX3_gone_68 hK hP hD hS (Or.inr ⟨j, hj, rfl, hthj, Or.inr ⟨c3, by rw [if_neg c5, if_neg c5]⟩⟩) (Nat.le_of_ble_eq_true rfl) (Nat.le_of_ble_eq_true rfl)
      · refine lv_aload_n hx hb dX3_gone_64 rfl (lv_at hl 0 rfl) ?_
        refine goVV0 hc (kX3_end l D k q H.size (nI 0) ck hd po (upd th j (nI 0)) we bu tg (vp_updL se j 0) gr ba tn sn un ow fi sz so wr dn ur dl sl le) (cwV 0 hts gX3_gone_X3_end rfl rfl rfl (by decide +kernel) ⟨(Nat.le_of_ble_eq_true rfl), (Nat.le_of_ble_eq_true rfl)⟩) hP hD hK hS hA (ci := 3) (q0 := 0) rfl rfl rfl hl.1 rfl (Nat.le_of_ble_eq_true rfl) dX3_gone_65 (Nat.le_of_ble_eq_true rfl) (Nat.le_of_ble_eq_true rfl) (fun B9 H locs hq hP hD hS => ?_)
        subst hq
        have hP : va_P D vwCl (MoW q k (nI 0) ck hd po (upd th j (nI 0)) we bu tg (vp_updL se j 0) gr ba tn sn un ow fi sz so wr dn ur dl (-1) (nI 0)) H := hP
        have hD : va_D A (MoW q k (nI 0) ck hd po (upd th j (nI 0)) we bu tg (vp_updL se j 0) gr ba tn sn un ow fi sz so wr dn ur dl (-1) (nI 0)) := hD
        exact retV hc dX3_gone_68 hK hP hD hS (Or.inr ⟨j, hj, rfl, hthj, Or.inr ⟨c3, by rw [if_pos c5, if_pos c5]⟩⟩) (Nat.le_of_ble_eq_true rfl) (Nat.le_of_ble_eq_true rfl)
    · refine lv_iconst (v := nI 1) hx hb dX3_gone_30 (by decide) ?_
      refine lv_goto (tgt := 35) hx hb dX3_gone_31 (by decide) ?_
      refine goVI0 hc (kX3_fails l D k q H.size tr ck hd po th we bu tg se gr ba tn sn un ow fi sz so wr dn ur dl sl le (nI 0) (nI 1)) (cwV 2 hts gX3_gone_X3_fails rfl rfl rfl (by decide +kernel) ⟨(Nat.le_of_ble_eq_true rfl), (Nat.le_of_ble_eq_true rfl)⟩) hP hD hK hS hA (ci := 3) (q0 := 0) rfl rfl rfl hl.1 rfl (Nat.le_of_ble_eq_true rfl) dX3_gone_35 (Nat.le_of_ble_eq_true rfl) (Nat.le_of_ble_eq_true rfl) (fun r9 B9 H locs hq hP hD hS => ?_)
      obtain ⟨hr9, rfl⟩ := hq
      subst hr9
      have hP : va_P D vwCl (MoW q k (flF (nI 0) (nI 1)) ck hd po th we bu tg se gr ba tn sn un ow fi sz so wr dn ur dl sl le) H := hP
      have hD : va_D A (MoW q k (flF (nI 0) (nI 1)) ck hd po th we bu tg se gr ba tn sn un ow fi sz so wr dn ur dl sl le) := hD
      rw [flF_01] at hP hD
      have hP : va_P D vwCl (MoW q k (nI 2) ck hd po th we bu tg se gr ba tn sn un ow fi sz so wr dn ur dl sl le) H := hP
      have hD : va_D A (MoW q k (nI 2) ck hd po th we bu tg se gr ba tn sn un ow fi sz so wr dn ur dl sl le) := hD
      refine lv_if_eq (tgt := 42) hx hb dX3_gone_38 (by decide) (fun c6 => False.elim (bI_0 c6 (by decide))) (fun c6 => ?_)
      exact retV hc dX3_gone_41 hK hP hD hS (Or.inr ⟨j, hj, rfl, hthj, Or.inl ⟨c3, rfl⟩⟩) (Nat.le_of_ble_eq_true rfl) (Nat.le_of_ble_eq_true rfl)
  · refine lv_iconst (v := nI 1) hx hb dX3_gone_9 (by decide) ?_
    refine lv_goto (tgt := 14) hx hb dX3_gone_10 (by decide) ?_
    refine lv_aload_n hx hb dX3_gone_14 rfl (lv_at hl 0 rfl) ?_
    refine lv_iload_n hx hb dX3_gone_15 rfl (lv_at hl 1 rfl) ?_
    refine goVI0 hc (kX3_isThere l D k q H.size tr ck hd po th we bu tg se gr ba tn sn un ow fi sz so wr dn ur dl sl le x) (cwV 1 hts gX3_gone_X3_isThere rfl rfl rfl (by decide +kernel) ⟨(Nat.le_of_ble_eq_true rfl), (Nat.le_of_ble_eq_true rfl)⟩) hP hD hK hS hA (ci := 3) (q0 := 0) rfl rfl rfl hl.1 rfl (Nat.le_of_ble_eq_true rfl) dX3_gone_16 (Nat.le_of_ble_eq_true rfl) (Nat.le_of_ble_eq_true rfl) (fun r9 B9 H locs hq hP hD hS => ?_)
    obtain ⟨hr9, rfl⟩ := hq
    subst hr9
    have hP : va_P D vwCl (MoW q k tr ck hd po th we bu tg se gr ba tn sn un ow fi sz so wr dn ur dl sl le) H := hP
    have hD : va_D A (MoW q k tr ck hd po th we bu tg se gr ba tn sn un ow fi sz so wr dn ur dl sl le) := hD
    refine lv_if_eq (tgt := 34) hx hb dX3_gone_19 (by decide) (fun c7 => ?_) (fun c7 => False.elim (c7 c1))
    refine lv_iconst (v := nI 0) hx hb dX3_gone_34 (by decide) ?_
    refine goVI0 hc (kX3_fails l D k q H.size tr ck hd po th we bu tg se gr ba tn sn un ow fi sz so wr dn ur dl sl le (nI 1) (nI 0)) (cwV 2 hts gX3_gone_X3_fails rfl rfl rfl (by decide +kernel) ⟨(Nat.le_of_ble_eq_true rfl), (Nat.le_of_ble_eq_true rfl)⟩) hP hD hK hS hA (ci := 3) (q0 := 0) rfl rfl rfl hl.1 rfl (Nat.le_of_ble_eq_true rfl) dX3_gone_35 (Nat.le_of_ble_eq_true rfl) (Nat.le_of_ble_eq_true rfl) (fun r9 B9 H locs hq hP hD hS => ?_)
    obtain ⟨hr9, rfl⟩ := hq
    subst hr9
    have hP : va_P D vwCl (MoW q k (flF (nI 1) (nI 0)) ck hd po th we bu tg se gr ba tn sn un ow fi sz so wr dn ur dl sl le) H := hP
    have hD : va_D A (MoW q k (flF (nI 1) (nI 0)) ck hd po th we bu tg se gr ba tn sn un ow fi sz so wr dn ur dl sl le) := hD
    rw [flF_10] at hP hD
    have hP : va_P D vwCl (MoW q k (nI 1) ck hd po th we bu tg se gr ba tn sn un ow fi sz so wr dn ur dl sl le) H := hP
    have hD : va_D A (MoW q k (nI 1) ck hd po th we bu tg se gr ba tn sn un ow fi sz so wr dn ur dl sl le) := hD
    refine lv_if_eq (tgt := 42) hx hb dX3_gone_38 (by decide) (fun c8 => False.elim (bI_0 c8 (by decide))) (fun c8 => ?_)
    exact retV hc dX3_gone_41 hK hP hD hS (Or.inl ⟨fun h => bI_0 c1 (thB_isT.mpr h), rfl⟩) (Nat.le_of_ble_eq_true rfl) (Nat.le_of_ble_eq_true rfl)
theorem mwX3_begin_0 : Cond.fieldLink RX3 30 "ShareDiskModel" "bases" "[J" ∈ wsX3_begin := by decide +kernel
theorem mwX3_begin_1 : Cond.fieldLink RX3 27 "ShareDiskModel" "grown" "[J" ∈ wsX3_begin := by decide +kernel
theorem mwX3_begin_2 : Cond.fieldLink RX3 20 "ShareDiskModel" "tags" "[J" ∈ wsX3_begin := by decide +kernel
theorem iwX3_begin_X3 : ∀ w ∈ wsX30, w ∈ wsX3_begin := by decide +kernel
set_option maxHeartbeats 4000000 in
set_option maxRecDepth 100000 in
theorem kX3_begin (l : Launch) (D : va_G) (k : Nat → ClassId) (q : Nat → Nat) (zz : Nat) (tr : Int32) (ck : Int64) (hd : Int32) (po : Int64) (th we bu : Nat → Int32) (tg se gr ba : Nat → Int64) (tn sn un : Nat) (ow fi sz so wr dn ur : Nat → Int32) (dl : Nat → Int64) (sl le : Int32) (id : Nat) (hid : id < 8) : MV l yX3_begin wsX3_begin ({ frames := 0, cells := 0, slots := 0, locals := 0 } : Room) D k (MoW q k tr ck hd po th we bu tg se gr ba tn sn un ow fi sz so wr dn ur dl sl le) zz [.ref (q 0), .int (nI id)] (fun w9 => w9 = MoW q k tr ck hd po th we bu (vp_updL tg id (if tg id ≤ tg 8 then tg 8 else tg id)) se gr (beB ba gr id 8) tn sn un ow fi sz so wr dn ur dl sl le) 0 0 := by
  refine bodyOf (Qc := fun A => QV D k (fun w9 => w9 = MoW q k tr ck hd po th we bu (vp_updL tg id (if tg id ≤ tg 8 then tg 8 else tg id)) se gr (beB ba gr id 8) tn sn un ow fi sz so wr dn ur dl sl le) A) (cc := cX3_begin) (maxL := 3) (ret := none) (by decide) rfl (Nat.le_of_ble_eq_true rfl) ?_
  intro p e s m below meth c A ls hc hA hK hP hD hS hl
  obtain ⟨hx, hb, hml, hr, hts, hown, hlocks, hin⟩ := (show _ from hc)
  have hl : lv_has ls 3 [(0, .ref (q 0)), (1, .int (nI id))] := hl
  have cut39 : ∀ (T : Nat → Int64) (H : Heap) (locs : List Loc) (ls : Array Slot), (T = vp_updL tg id (if tg id ≤ tg 8 then tg 8 else tg id)) → va_P D vwCl (MoW q k tr ck hd po th we bu T se gr ba tn sn un ow fi sz so wr dn ur dl sl le) H → va_D A (MoW q k tr ck hd po th we bu T se gr ba tn sn un ow fi sz so wr dn ur dl sl le) → va_S A s.heap H locs → lv_has ls 3 [(0, .ref (q 0)), (1, .int (nI id))] → W p l e ({ frames := 0, cells := 0, slots := 0, locals := 0 } : Room) s m [.ref (q 0), .int (nI id)].toArray below meth c H locs 0 0 (MQ below (QV D k (fun w9 => w9 = MoW q k tr ck hd po th we bu (vp_updL tg id (if tg id ≤ tg 8 then tg 8 else tg id)) se gr (beB ba gr id 8) tn sn un ow fi sz so wr dn ur dl sl le) A) [.ref (q 0), .int (nI id)].toArray s 0 0 A) (F0 m 39 ls []) := by
    intro T H locs ls hT hP hD hS hl
    refine lv_iconst (v := nI 0) hx hb dX3_begin_39 (by decide) ?_
    refine lv_istore_n (lv' := [(2, .int (nI 0)), (0, .ref (q 0)), (1, .int (nI id))]) hx hb dX3_begin_40 rfl hl (by decide) rfl (fun ls hl => ?_)
    have loop41 : ∀ (n : Nat) (i : Nat) (B : Nat → Int64), (i ≤ 8) → (B = beB ba gr id i) → 8 - i < n → ∀ (H : Heap) (locs : List Loc) (ls : Array Slot), va_P D vwCl (MoW q k tr ck hd po th we bu T se gr B tn sn un ow fi sz so wr dn ur dl sl le) H → va_D A (MoW q k tr ck hd po th we bu T se gr B tn sn un ow fi sz so wr dn ur dl sl le) → va_S A s.heap H locs → lv_has ls 3 [(0, .ref (q 0)), (1, .int (nI id)), (2, .int (nI i))] → W p l e ({ frames := 0, cells := 0, slots := 0, locals := 0 } : Room) s m [.ref (q 0), .int (nI id)].toArray below meth c H locs 0 0 (MQ below (QV D k (fun w9 => w9 = MoW q k tr ck hd po th we bu (vp_updL tg id (if tg id ≤ tg 8 then tg 8 else tg id)) se gr (beB ba gr id 8) tn sn un ow fi sz so wr dn ur dl sl le) A) [.ref (q 0), .int (nI id)].toArray s 0 0 A) (F0 m 41 ls []) := by
      intro n
      induction n with
      | zero => intro i B hi hB hn9; exact absurd hn9 (Nat.not_lt_zero _)
      | succ n ih =>
        intro i B hi hB hn9 H locs ls hP hD hS hl
        refine lv_iload_n hx hb dX3_begin_41 rfl (lv_at hl 2 rfl) ?_
        refine lv_bipush (v := nI 8) hx hb dX3_begin_42 (by decide) ?_
        refine lv_icmp_ge (tgt := 87) hx hb dX3_begin_44 (by decide) (fun c1 => ?_) (fun c1 => ?_)
        · have hi8 : i = 8 := lp_ge (by decide) hi c1
          exact retV hc dX3_begin_87 hK hP hD hS (by rw [hB, hi8, hT]) (Nat.le_of_ble_eq_true rfl) (Nat.le_of_ble_eq_true rfl)
        · have hi8 : i < 8 := lp_lt (by decide) hi c1
          refine lv_aload_n hx hb dX3_begin_47 rfl (lv_at hl 0 rfl) ?_
          refine va_get (D := D) (ci := 3) (v := .ref (q 7)) (C := RX3) (T := TX3) (N := 24) hx hb hts iwX3_begin_X3 hown hK hP 0 rfl rfl 10 (by decide) (hts (Cond.fieldLink RX3 30 "ShareDiskModel" "bases" "[J") mwX3_begin_0) (fun _ h9 => h9) rfl dX3_begin_48 ?_
          refine lv_bipush (v := nI 8) hx hb dX3_begin_51 (by decide) ?_
          refine lv_iload_n hx hb dX3_begin_53 rfl (lv_at hl 1 rfl) ?_
          refine nmul hx hb dX3_begin_54 ?_
          refine lv_iload_n hx hb dX3_begin_55 rfl (lv_at hl 2 rfl) ?_
          refine nadd hx hb dX3_begin_56 ?_
          refine lv_aload_n hx hb dX3_begin_57 rfl (lv_at hl 0 rfl) ?_
          refine va_get (D := D) (ci := 3) (v := .ref (q 6)) (C := RX3) (T := TX3) (N := 24) hx hb hts iwX3_begin_X3 hown hK hP 0 rfl rfl 9 (by decide) (hts (Cond.fieldLink RX3 27 "ShareDiskModel" "grown" "[J") mwX3_begin_1) (fun _ h9 => h9) rfl dX3_begin_58 ?_
          refine lv_iload_n hx hb dX3_begin_61 rfl (lv_at hl 1 rfl) ?_
          refine aJ hx hb hK hP 6 2 rfl rfl (ix8 (by omega)) dX3_begin_62 ?_
          refine sJ hx hb hK hP hD hS 7 2 rfl rfl (ix64 (by omega)) dX3_begin_63 (fun H locs hP hD hS => ?_)
          have hP : va_P D vwCl (MoW q k tr ck hd po th we bu T se gr (vp_updL B (8 * id + i) (gr id)) tn sn un ow fi sz so wr dn ur dl sl le) H := hP
          have hD : va_D A (MoW q k tr ck hd po th we bu T se gr (vp_updL B (8 * id + i) (gr id)) tn sn un ow fi sz so wr dn ur dl sl le) := hD
          refine lv_aload_n hx hb dX3_begin_64 rfl (lv_at hl 0 rfl) ?_
          refine va_get (D := D) (ci := 3) (v := .ref (q 7)) (C := RX3) (T := TX3) (N := 24) hx hb hts iwX3_begin_X3 hown hK hP 0 rfl rfl 10 (by decide) (hts (Cond.fieldLink RX3 30 "ShareDiskModel" "bases" "[J") mwX3_begin_0) (fun _ h9 => h9) rfl dX3_begin_65 ?_
          refine lv_bipush (v := nI 8) hx hb dX3_begin_68 (by decide) ?_
          refine lv_iload_n hx hb dX3_begin_70 rfl (lv_at hl 2 rfl) ?_
          refine nmul hx hb dX3_begin_71 ?_
          refine lv_iload_n hx hb dX3_begin_72 rfl (lv_at hl 1 rfl) ?_
          refine nadd hx hb dX3_begin_73 ?_
          refine lv_aload_n hx hb dX3_begin_74 rfl (lv_at hl 0 rfl) ?_
          refine va_get (D := D) (ci := 3) (v := .ref (q 6)) (C := RX3) (T := TX3) (N := 24) hx hb hts iwX3_begin_X3 hown hK hP 0 rfl rfl 9 (by decide) (hts (Cond.fieldLink RX3 27 "ShareDiskModel" "grown" "[J") mwX3_begin_1) (fun _ h9 => h9) rfl dX3_begin_75 ?_
          refine lv_iload_n hx hb dX3_begin_78 rfl (lv_at hl 2 rfl) ?_
          refine aJ hx hb hK hP 6 2 rfl rfl (ix8 (by omega)) dX3_begin_79 ?_
          refine sJ hx hb hK hP hD hS 7 2 rfl rfl (ix64 (by omega)) dX3_begin_80 (fun H locs hP hD hS => ?_)
          have hP : va_P D vwCl (MoW q k tr ck hd po th we bu T se gr (vp_updL (vp_updL B (8 * id + i) (gr id)) (8 * i + id) (gr i)) tn sn un ow fi sz so wr dn ur dl sl le) H := hP
          have hD : va_D A (MoW q k tr ck hd po th we bu T se gr (vp_updL (vp_updL B (8 * id + i) (gr id)) (8 * i + id) (gr i)) tn sn un ow fi sz so wr dn ur dl sl le) := hD
          refine lv_iinc (v := nI (i + 1)) (lv' := [(2, .int (nI (i + 1))), (0, .ref (q 0)), (1, .int (nI id))]) hx hb dX3_begin_81 hl (k := 2) rfl (by rw [show Int32.ofInt 1 = nI 1 by decide, nI_add]) (by decide) rfl (fun ls hl => ?_)
          refine lv_goto (tgt := 41) hx hb dX3_begin_84 (by decide) ?_
          exact ih (i + 1) _ (by omega) (by rw [hB]; rfl) (by omega) _ _ _ hP hD hS (lv_sub hl [1, 2, 0] rfl)
    exact loop41 _ 0 ba (by omega) rfl (Nat.lt_succ_self _) _ _ _ hP hD hS (lv_sub hl [1, 2, 0] rfl)
  refine lv_aload_n hx hb dX3_begin_0 rfl (lv_at hl 0 rfl) ?_
  refine va_get (D := D) (ci := 3) (v := .ref (q 4)) (C := RX3) (T := TX3) (N := 24) hx hb hts iwX3_begin_X3 hown hK hP 0 rfl rfl 7 (by decide) (hts (Cond.fieldLink RX3 20 "ShareDiskModel" "tags" "[J") mwX3_begin_2) (fun _ h9 => h9) rfl dX3_begin_1 ?_
  refine lv_iload_n hx hb dX3_begin_4 rfl (lv_at hl 1 rfl) ?_
  refine lv_aload_n hx hb dX3_begin_5 rfl (lv_at hl 0 rfl) ?_
  refine va_get (D := D) (ci := 3) (v := .ref (q 4)) (C := RX3) (T := TX3) (N := 24) hx hb hts iwX3_begin_X3 hown hK hP 0 rfl rfl 7 (by decide) (hts (Cond.fieldLink RX3 20 "ShareDiskModel" "tags" "[J") mwX3_begin_2) (fun _ h9 => h9) rfl dX3_begin_6 ?_
  refine lv_iload_n hx hb dX3_begin_9 rfl (lv_at hl 1 rfl) ?_
  refine aJ hx hb hK hP 4 2 rfl rfl (ix9 (by omega)) dX3_begin_10 ?_
  refine lv_aload_n hx hb dX3_begin_11 rfl (lv_at hl 0 rfl) ?_
  refine va_get (D := D) (ci := 3) (v := .ref (q 4)) (C := RX3) (T := TX3) (N := 24) hx hb hts iwX3_begin_X3 hown hK hP 0 rfl rfl 7 (by decide) (hts (Cond.fieldLink RX3 20 "ShareDiskModel" "tags" "[J") mwX3_begin_2) (fun _ h9 => h9) rfl dX3_begin_12 ?_
  refine lv_bipush (v := nI 8) hx hb dX3_begin_15 (by decide) ?_
  refine aJ hx hb hK hP 4 2 rfl rfl (ix9 (by decide)) dX3_begin_17 ?_
  refine W.lcmp hx hb dX3_begin_18 ?_
  refine lv_if_le (tgt := 31) hx hb dX3_begin_19 (by decide) (fun c2 => ?_) (fun c2 => ?_)
  · rw [lg_cmp_le] at c2
    refine lv_aload_n hx hb dX3_begin_31 rfl (lv_at hl 0 rfl) ?_
    refine va_get (D := D) (ci := 3) (v := .ref (q 4)) (C := RX3) (T := TX3) (N := 24) hx hb hts iwX3_begin_X3 hown hK hP 0 rfl rfl 7 (by decide) (hts (Cond.fieldLink RX3 20 "ShareDiskModel" "tags" "[J") mwX3_begin_2) (fun _ h9 => h9) rfl dX3_begin_32 ?_
    refine lv_bipush (v := nI 8) hx hb dX3_begin_35 (by decide) ?_
    refine aJ hx hb hK hP 4 2 rfl rfl (ix9 (by decide)) dX3_begin_37 ?_
    refine sJ hx hb hK hP hD hS 4 2 rfl rfl (ix9 (by omega)) dX3_begin_38 (fun H locs hP hD hS => ?_)
    have hP : va_P D vwCl (MoW q k tr ck hd po th we bu (vp_updL tg id (tg 8)) se gr ba tn sn un ow fi sz so wr dn ur dl sl le) H := hP
    have hD : va_D A (MoW q k tr ck hd po th we bu (vp_updL tg id (tg 8)) se gr ba tn sn un ow fi sz so wr dn ur dl sl le) := hD
    exact cut39 _ _ _ _ (by simp [c2]) hP hD hS (lv_sub hl [0, 1] rfl)
  · rw [lg_cmp_le] at c2
    refine lv_aload_n hx hb dX3_begin_22 rfl (lv_at hl 0 rfl) ?_
    refine va_get (D := D) (ci := 3) (v := .ref (q 4)) (C := RX3) (T := TX3) (N := 24) hx hb hts iwX3_begin_X3 hown hK hP 0 rfl rfl 7 (by decide) (hts (Cond.fieldLink RX3 20 "ShareDiskModel" "tags" "[J") mwX3_begin_2) (fun _ h9 => h9) rfl dX3_begin_23 ?_
    refine lv_iload_n hx hb dX3_begin_26 rfl (lv_at hl 1 rfl) ?_
    refine aJ hx hb hK hP 4 2 rfl rfl (ix9 (by omega)) dX3_begin_27 ?_
    refine lv_goto (tgt := 38) hx hb dX3_begin_28 (by decide) ?_
    refine sJ hx hb hK hP hD hS 4 2 rfl rfl (ix9 (by omega)) dX3_begin_38 (fun H locs hP hD hS => ?_)
    have hP : va_P D vwCl (MoW q k tr ck hd po th we bu (vp_updL tg id (tg id)) se gr ba tn sn un ow fi sz so wr dn ur dl sl le) H := hP
    have hD : va_D A (MoW q k tr ck hd po th we bu (vp_updL tg id (tg id)) se gr ba tn sn un ow fi sz so wr dn ur dl sl le) := hD
    exact cut39 _ _ _ _ (by simp [c2]) hP hD hS (lv_sub hl [0, 1] rfl)
theorem mwX3_isBlocked_0 : Cond.fieldLink RX3 48 "ShareDiskModel" "done" "[Z" ∈ wsX3_isBlocked := by decide +kernel
theorem mwX3_isBlocked_1 : Cond.fieldLink RX3 33 "ShareDiskModel" "clientOf" "[I" ∈ wsX3_isBlocked := by decide +kernel
theorem mwX3_isBlocked_2 : Cond.fieldLink RX3 45 "ShareDiskModel" "writes" "[Z" ∈ wsX3_isBlocked := by decide +kernel
theorem mwX3_isBlocked_3 : Cond.fieldLink RX3 36 "ShareDiskModel" "first" "[I" ∈ wsX3_isBlocked := by decide +kernel
theorem mwX3_isBlocked_4 : Cond.fieldLink RX3 39 "ShareDiskModel" "counts" "[I" ∈ wsX3_isBlocked := by decide +kernel
theorem iwX3_isBlocked_X3 : ∀ w ∈ wsX30, w ∈ wsX3_isBlocked := by decide +kernel
set_option maxHeartbeats 4000000 in
set_option maxRecDepth 100000 in
theorem kX3_isBlocked (l : Launch) (D : va_G) (k : Nat → ClassId) (q : Nat → Nat) (zz : Nat) (tr : Int32) (ck : Int64) (hd : Int32) (po : Int64) (th we bu : Nat → Int32) (tg se gr ba : Nat → Int64) (tn sn un : Nat) (ow fi sz so wr dn ur : Nat → Int32) (dl : Nat → Int64) (sl le : Int32) (t : Nat) (ht : t < 500) : MI l yX3_isBlocked wsX3_isBlocked ({ frames := 0, cells := 0, slots := 0, locals := 0 } : Room) D k (MoW q k tr ck hd po th we bu tg se gr ba tn sn un ow fi sz so wr dn ur dl sl le) zz [.ref (q 0), .int (nI t)] (fun r9 w9 => r9 = (bI (ibB dn ow wr fi sz t t = true)) ∧ w9 = MoW q k tr ck hd po th we bu tg se gr ba tn sn un ow fi sz so wr dn ur dl sl le) 0 0 := by
  refine bodyOf (Qc := fun A => QI D k (fun r9 w9 => r9 = (bI (ibB dn ow wr fi sz t t = true)) ∧ w9 = MoW q k tr ck hd po th we bu tg se gr ba tn sn un ow fi sz so wr dn ur dl sl le) A) (cc := cX3_isBlocked) (maxL := 5) (ret := (some .boolean)) (by decide) rfl (Nat.le_of_ble_eq_true rfl) ?_
  intro p e s m below meth c A ls hc hA hK hP hD hS hl
  obtain ⟨hx, hb, hml, hr, hts, hown, hlocks, hin⟩ := (show _ from hc)
  have hl : lv_has ls 5 [(0, .ref (q 0)), (1, .int (nI t))] := hl
  refine lv_iconst (v := nI 0) hx hb dX3_isBlocked_0 (by decide) ?_
  refine lv_istore_n (lv' := [(2, .int (nI 0)), (0, .ref (q 0)), (1, .int (nI t))]) hx hb dX3_isBlocked_1 rfl hl (by decide) rfl (fun ls hl => ?_)
  refine lv_iconst (v := nI 0) hx hb dX3_isBlocked_2 (by decide) ?_
  refine lv_istore_n (lv' := [(3, .int (nI 0)), (2, .int (nI 0)), (0, .ref (q 0)), (1, .int (nI t))]) hx hb dX3_isBlocked_3 rfl hl (by decide) rfl (fun ls hl => ?_)
  have loop4 : ∀ (n : Nat) (i : Nat) (bb : Bool), (i ≤ t) → (bb = ibB dn ow wr fi sz t i) → t - i < n → ∀ (H : Heap) (locs : List Loc) (ls : Array Slot), va_P D vwCl (MoW q k tr ck hd po th we bu tg se gr ba tn sn un ow fi sz so wr dn ur dl sl le) H → va_D A (MoW q k tr ck hd po th we bu tg se gr ba tn sn un ow fi sz so wr dn ur dl sl le) → va_S A s.heap H locs → lv_has ls 5 [(0, .ref (q 0)), (1, .int (nI t)), (2, .int (bI (bb = true))), (3, .int (nI i))] → W p l e ({ frames := 0, cells := 0, slots := 0, locals := 0 } : Room) s m [.ref (q 0), .int (nI t)].toArray below meth c H locs 0 0 (MQ below (QI D k (fun r9 w9 => r9 = (bI (ibB dn ow wr fi sz t t = true)) ∧ w9 = MoW q k tr ck hd po th we bu tg se gr ba tn sn un ow fi sz so wr dn ur dl sl le) A) [.ref (q 0), .int (nI t)].toArray s 0 0 A) (F0 m 4 ls []) := by
    intro n
    induction n with
    | zero => intro i bb hi hbb hn9; exact absurd hn9 (Nat.not_lt_zero _)
    | succ n ih =>
      intro i bb hi hbb hn9 H locs ls hP hD hS hl
      refine lv_iload_n hx hb dX3_isBlocked_4 rfl (lv_at hl 3 rfl) ?_
      refine lv_iload_n hx hb dX3_isBlocked_5 rfl (lv_at hl 1 rfl) ?_
      refine lv_icmp_ge (tgt := 123) hx hb dX3_isBlocked_6 (by decide) (fun c1 => ?_) (fun c1 => ?_)
      · have hi8 : i = t := lp_ge (by omega) hi c1
        refine lv_iload_n hx hb dX3_isBlocked_123 rfl (lv_at hl 2 rfl) ?_
        exact retZ hc dX3_isBlocked_124 hK hP hD hS (bI_01 _) (⟨by rw [hbb, hi8], rfl⟩) (Nat.le_of_ble_eq_true rfl) (Nat.le_of_ble_eq_true rfl)
      · have hi8 : i < t := lp_lt (by omega) hi c1
        have cut60 : ∀ (v : Int32) (H : Heap) (locs : List Loc) (ls : Array Slot), (v = bI (¬ (fi t + sz t ≤ fi i) ∧ ¬ (fi i + sz i ≤ fi t))) → va_P D vwCl (MoW q k tr ck hd po th we bu tg se gr ba tn sn un ow fi sz so wr dn ur dl sl le) H → va_D A (MoW q k tr ck hd po th we bu tg se gr ba tn sn un ow fi sz so wr dn ur dl sl le) → va_S A s.heap H locs → lv_has ls 5 [(0, .ref (q 0)), (1, .int (nI t)), (2, .int (bI (bb = true))), (3, .int (nI i)), (4, .int v)] → W p l e ({ frames := 0, cells := 0, slots := 0, locals := 0 } : Room) s m [.ref (q 0), .int (nI t)].toArray below meth c H locs 0 0 (MQ below (QI D k (fun r9 w9 => r9 = (bI (ibB dn ow wr fi sz t t = true)) ∧ w9 = MoW q k tr ck hd po th we bu tg se gr ba tn sn un ow fi sz so wr dn ur dl sl le) A) [.ref (q 0), .int (nI t)].toArray s 0 0 A) (F0 m 60 ls []) := by
          intro v H locs ls hv hP hD hS hl
          refine lv_iload_n hx hb dX3_isBlocked_60 rfl (lv_at hl 2 rfl) ?_
          refine lv_if_ne (tgt := 111) hx hb dX3_isBlocked_61 (by decide) (fun c2 => ?_) (fun c2 => ?_)
          · refine lv_iconst (v := nI 1) hx hb dX3_isBlocked_111 (by decide) ?_
            refine lv_goto (tgt := 116) hx hb dX3_isBlocked_112 (by decide) ?_
            refine lv_istore_n (lv' := [(2, .int (nI 1)), (0, .ref (q 0)), (1, .int (nI t)), (3, .int (nI i)), (4, .int v)]) hx hb dX3_isBlocked_116 rfl hl (by decide) rfl (fun ls hl => ?_)
            refine lv_iinc (v := nI (i + 1)) (lv' := [(3, .int (nI (i + 1))), (2, .int (nI 1)), (0, .ref (q 0)), (1, .int (nI t)), (4, .int v)]) hx hb dX3_isBlocked_117 hl (k := 3) rfl (by rw [show Int32.ofInt 1 = nI 1 by decide, nI_add]) (by decide) rfl (fun ls hl => ?_)
            refine lv_goto (tgt := 4) hx hb dX3_isBlocked_120 (by decide) ?_
            exact ih (i + 1) true (by omega) (by rw [ibB, ← hbb]; exact ib_t1 (bI_1 c2)) (by omega) _ _ _ hP hD hS (lv_sub hl [2, 3, 1, 0] rfl)
          · refine lv_aload_n hx hb dX3_isBlocked_64 rfl (lv_at hl 0 rfl) ?_
            refine va_get (D := D) (ci := 3) (v := .ref (q 13)) (C := RX3) (T := TX3) (N := 24) hx hb hts iwX3_isBlocked_X3 hown hK hP 0 rfl rfl 19 (by decide) (hts (Cond.fieldLink RX3 48 "ShareDiskModel" "done" "[Z") mwX3_isBlocked_0) (fun _ h9 => h9) rfl dX3_isBlocked_65 ?_
            refine lv_iload_n hx hb dX3_isBlocked_68 rfl (lv_at hl 3 rfl) ?_
            refine aZ hx hb hK hP 13 0 rfl rfl (ix5 (by omega)) dX3_isBlocked_69 ?_
            refine lv_if_ne (tgt := 115) hx hb dX3_isBlocked_70 (by decide) (fun c3 => ?_) (fun c3 => ?_)
            · refine lv_iconst (v := nI 0) hx hb dX3_isBlocked_115 (by decide) ?_
              refine lv_istore_n (lv' := [(2, .int (nI 0)), (0, .ref (q 0)), (1, .int (nI t)), (3, .int (nI i)), (4, .int v)]) hx hb dX3_isBlocked_116 rfl hl (by decide) rfl (fun ls hl => ?_)
              refine lv_iinc (v := nI (i + 1)) (lv' := [(3, .int (nI (i + 1))), (2, .int (nI 0)), (0, .ref (q 0)), (1, .int (nI t)), (4, .int v)]) hx hb dX3_isBlocked_117 hl (k := 3) rfl (by rw [show Int32.ofInt 1 = nI 1 by decide, nI_add]) (by decide) rfl (fun ls hl => ?_)
              refine lv_goto (tgt := 4) hx hb dX3_isBlocked_120 (by decide) ?_
              exact ih (i + 1) false (by omega) (by rw [ibB, ← hbb]; exact ib_f (bI_0 c2) (fun h => c3 h.1)) (by omega) _ _ _ hP hD hS (lv_sub hl [2, 3, 1, 0] rfl)
            · refine lv_aload_n hx hb dX3_isBlocked_73 rfl (lv_at hl 0 rfl) ?_
              refine va_get (D := D) (ci := 3) (v := .ref (q 8)) (C := RX3) (T := TX3) (N := 24) hx hb hts iwX3_isBlocked_X3 hown hK hP 0 rfl rfl 14 (by decide) (hts (Cond.fieldLink RX3 33 "ShareDiskModel" "clientOf" "[I") mwX3_isBlocked_1) (fun _ h9 => h9) rfl dX3_isBlocked_74 ?_
              refine lv_iload_n hx hb dX3_isBlocked_77 rfl (lv_at hl 3 rfl) ?_
              refine aI hx hb hK hP 8 1 rfl rfl (ix5 (by omega)) dX3_isBlocked_78 ?_
              refine lv_aload_n hx hb dX3_isBlocked_79 rfl (lv_at hl 0 rfl) ?_
              refine va_get (D := D) (ci := 3) (v := .ref (q 8)) (C := RX3) (T := TX3) (N := 24) hx hb hts iwX3_isBlocked_X3 hown hK hP 0 rfl rfl 14 (by decide) (hts (Cond.fieldLink RX3 33 "ShareDiskModel" "clientOf" "[I") mwX3_isBlocked_1) (fun _ h9 => h9) rfl dX3_isBlocked_80 ?_
              refine lv_iload_n hx hb dX3_isBlocked_83 rfl (lv_at hl 1 rfl) ?_
              refine aI hx hb hK hP 8 1 rfl rfl (ix5 ht) dX3_isBlocked_84 ?_
              refine lv_icmp_ne (tgt := 115) hx hb dX3_isBlocked_85 (by decide) (fun c4 => ?_) (fun c4 => ?_)
              · refine lv_iconst (v := nI 0) hx hb dX3_isBlocked_115 (by decide) ?_
                refine lv_istore_n (lv' := [(2, .int (nI 0)), (0, .ref (q 0)), (1, .int (nI t)), (3, .int (nI i)), (4, .int v)]) hx hb dX3_isBlocked_116 rfl hl (by decide) rfl (fun ls hl => ?_)
                refine lv_iinc (v := nI (i + 1)) (lv' := [(3, .int (nI (i + 1))), (2, .int (nI 0)), (0, .ref (q 0)), (1, .int (nI t)), (4, .int v)]) hx hb dX3_isBlocked_117 hl (k := 3) rfl (by rw [show Int32.ofInt 1 = nI 1 by decide, nI_add]) (by decide) rfl (fun ls hl => ?_)
                refine lv_goto (tgt := 4) hx hb dX3_isBlocked_120 (by decide) ?_
                exact ih (i + 1) false (by omega) (by rw [ibB, ← hbb]; exact ib_f (bI_0 c2) (fun h => c4 h.2.1)) (by omega) _ _ _ hP hD hS (lv_sub hl [2, 3, 1, 0] rfl)
              · refine lv_iload hx hb dX3_isBlocked_88 (lv_at hl 4 rfl) ?_
                refine lv_if_eq (tgt := 115) hx hb dX3_isBlocked_90 (by decide) (fun c5 => ?_) (fun c5 => ?_)
                · refine lv_iconst (v := nI 0) hx hb dX3_isBlocked_115 (by decide) ?_
                  refine lv_istore_n (lv' := [(2, .int (nI 0)), (0, .ref (q 0)), (1, .int (nI t)), (3, .int (nI i)), (4, .int v)]) hx hb dX3_isBlocked_116 rfl hl (by decide) rfl (fun ls hl => ?_)
                  refine lv_iinc (v := nI (i + 1)) (lv' := [(3, .int (nI (i + 1))), (2, .int (nI 0)), (0, .ref (q 0)), (1, .int (nI t)), (4, .int v)]) hx hb dX3_isBlocked_117 hl (k := 3) rfl (by rw [show Int32.ofInt 1 = nI 1 by decide, nI_add]) (by decide) rfl (fun ls hl => ?_)
                  refine lv_goto (tgt := 4) hx hb dX3_isBlocked_120 (by decide) ?_
                  exact ih (i + 1) false (by omega) (by rw [ibB, ← hbb]; exact ib_f (bI_0 c2) (fun h => bI_0 (hv.symm.trans c5) ⟨h.2.2.2.1, h.2.2.2.2⟩)) (by omega) _ _ _ hP hD hS (lv_sub hl [2, 3, 1, 0] rfl)
                · refine lv_aload_n hx hb dX3_isBlocked_93 rfl (lv_at hl 0 rfl) ?_
                  refine va_get (D := D) (ci := 3) (v := .ref (q 12)) (C := RX3) (T := TX3) (N := 24) hx hb hts iwX3_isBlocked_X3 hown hK hP 0 rfl rfl 18 (by decide) (hts (Cond.fieldLink RX3 45 "ShareDiskModel" "writes" "[Z") mwX3_isBlocked_2) (fun _ h9 => h9) rfl dX3_isBlocked_94 ?_
                  refine lv_iload_n hx hb dX3_isBlocked_97 rfl (lv_at hl 3 rfl) ?_
                  refine aZ hx hb hK hP 12 0 rfl rfl (ix5 (by omega)) dX3_isBlocked_98 ?_
                  refine lv_if_ne (tgt := 111) hx hb dX3_isBlocked_99 (by decide) (fun c6 => ?_) (fun c6 => ?_)
                  · refine lv_iconst (v := nI 1) hx hb dX3_isBlocked_111 (by decide) ?_
                    refine lv_goto (tgt := 116) hx hb dX3_isBlocked_112 (by decide) ?_
                    refine lv_istore_n (lv' := [(2, .int (nI 1)), (0, .ref (q 0)), (1, .int (nI t)), (3, .int (nI i)), (4, .int v)]) hx hb dX3_isBlocked_116 rfl hl (by decide) rfl (fun ls hl => ?_)
                    refine lv_iinc (v := nI (i + 1)) (lv' := [(3, .int (nI (i + 1))), (2, .int (nI 1)), (0, .ref (q 0)), (1, .int (nI t)), (4, .int v)]) hx hb dX3_isBlocked_117 hl (k := 3) rfl (by rw [show Int32.ofInt 1 = nI 1 by decide, nI_add]) (by decide) rfl (fun ls hl => ?_)
                    refine lv_goto (tgt := 4) hx hb dX3_isBlocked_120 (by decide) ?_
                    exact ih (i + 1) true (by omega) (by rw [ibB, ← hbb]; exact ib_t2 ⟨c3, c4, Or.inl c6, (bI_1 (fun h => c5 (hv.trans h))).1, (bI_1 (fun h => c5 (hv.trans h))).2⟩) (by omega) _ _ _ hP hD hS (lv_sub hl [2, 3, 1, 0] rfl)
                  · refine lv_aload_n hx hb dX3_isBlocked_102 rfl (lv_at hl 0 rfl) ?_
                    refine va_get (D := D) (ci := 3) (v := .ref (q 12)) (C := RX3) (T := TX3) (N := 24) hx hb hts iwX3_isBlocked_X3 hown hK hP 0 rfl rfl 18 (by decide) (hts (Cond.fieldLink RX3 45 "ShareDiskModel" "writes" "[Z") mwX3_isBlocked_2) (fun _ h9 => h9) rfl dX3_isBlocked_103 ?_
                    refine lv_iload_n hx hb dX3_isBlocked_106 rfl (lv_at hl 1 rfl) ?_
                    refine aZ hx hb hK hP 12 0 rfl rfl (ix5 ht) dX3_isBlocked_107 ?_
                    refine lv_if_eq (tgt := 115) hx hb dX3_isBlocked_108 (by decide) (fun c7 => ?_) (fun c7 => ?_)
                    · refine lv_iconst (v := nI 0) hx hb dX3_isBlocked_115 (by decide) ?_
                      refine lv_istore_n (lv' := [(2, .int (nI 0)), (0, .ref (q 0)), (1, .int (nI t)), (3, .int (nI i)), (4, .int v)]) hx hb dX3_isBlocked_116 rfl hl (by decide) rfl (fun ls hl => ?_)
                      refine lv_iinc (v := nI (i + 1)) (lv' := [(3, .int (nI (i + 1))), (2, .int (nI 0)), (0, .ref (q 0)), (1, .int (nI t)), (4, .int v)]) hx hb dX3_isBlocked_117 hl (k := 3) rfl (by rw [show Int32.ofInt 1 = nI 1 by decide, nI_add]) (by decide) rfl (fun ls hl => ?_)
                      refine lv_goto (tgt := 4) hx hb dX3_isBlocked_120 (by decide) ?_
                      exact ih (i + 1) false (by omega) (by rw [ibB, ← hbb]; exact ib_f (bI_0 c2) (fun h => h.2.2.1.elim (fun a => a c6) (fun a => a c7))) (by omega) _ _ _ hP hD hS (lv_sub hl [2, 3, 1, 0] rfl)
                    · refine lv_iconst (v := nI 1) hx hb dX3_isBlocked_111 (by decide) ?_
                      refine lv_goto (tgt := 116) hx hb dX3_isBlocked_112 (by decide) ?_
                      refine lv_istore_n (lv' := [(2, .int (nI 1)), (0, .ref (q 0)), (1, .int (nI t)), (3, .int (nI i)), (4, .int v)]) hx hb dX3_isBlocked_116 rfl hl (by decide) rfl (fun ls hl => ?_)
                      refine lv_iinc (v := nI (i + 1)) (lv' := [(3, .int (nI (i + 1))), (2, .int (nI 1)), (0, .ref (q 0)), (1, .int (nI t)), (4, .int v)]) hx hb dX3_isBlocked_117 hl (k := 3) rfl (by rw [show Int32.ofInt 1 = nI 1 by decide, nI_add]) (by decide) rfl (fun ls hl => ?_)
                      refine lv_goto (tgt := 4) hx hb dX3_isBlocked_120 (by decide) ?_
                      exact ih (i + 1) true (by omega) (by rw [ibB, ← hbb]; exact ib_t2 ⟨c3, c4, Or.inr c7, (bI_1 (fun h => c5 (hv.trans h))).1, (bI_1 (fun h => c5 (hv.trans h))).2⟩) (by omega) _ _ _ hP hD hS (lv_sub hl [2, 3, 1, 0] rfl)
        refine lv_aload_n hx hb dX3_isBlocked_9 rfl (lv_at hl 0 rfl) ?_
        refine va_get (D := D) (ci := 3) (v := .ref (q 9)) (C := RX3) (T := TX3) (N := 24) hx hb hts iwX3_isBlocked_X3 hown hK hP 0 rfl rfl 15 (by decide) (hts (Cond.fieldLink RX3 36 "ShareDiskModel" "first" "[I") mwX3_isBlocked_3) (fun _ h9 => h9) rfl dX3_isBlocked_10 ?_
        refine lv_iload_n hx hb dX3_isBlocked_13 rfl (lv_at hl 3 rfl) ?_
        refine aI hx hb hK hP 9 1 rfl rfl (ix5 (by omega)) dX3_isBlocked_14 ?_
        refine lv_aload_n hx hb dX3_isBlocked_15 rfl (lv_at hl 0 rfl) ?_
        refine va_get (D := D) (ci := 3) (v := .ref (q 9)) (C := RX3) (T := TX3) (N := 24) hx hb hts iwX3_isBlocked_X3 hown hK hP 0 rfl rfl 15 (by decide) (hts (Cond.fieldLink RX3 36 "ShareDiskModel" "first" "[I") mwX3_isBlocked_3) (fun _ h9 => h9) rfl dX3_isBlocked_16 ?_
        refine lv_iload_n hx hb dX3_isBlocked_19 rfl (lv_at hl 1 rfl) ?_
        refine aI hx hb hK hP 9 1 rfl rfl (ix5 ht) dX3_isBlocked_20 ?_
        refine lv_aload_n hx hb dX3_isBlocked_21 rfl (lv_at hl 0 rfl) ?_
        refine va_get (D := D) (ci := 3) (v := .ref (q 10)) (C := RX3) (T := TX3) (N := 24) hx hb hts iwX3_isBlocked_X3 hown hK hP 0 rfl rfl 16 (by decide) (hts (Cond.fieldLink RX3 39 "ShareDiskModel" "counts" "[I") mwX3_isBlocked_4) (fun _ h9 => h9) rfl dX3_isBlocked_22 ?_
        refine lv_iload_n hx hb dX3_isBlocked_25 rfl (lv_at hl 1 rfl) ?_
        refine aI hx hb hK hP 10 1 rfl rfl (ix5 ht) dX3_isBlocked_26 ?_
        refine lv_iadd hx hb dX3_isBlocked_27 ?_
        refine lv_icmp_ge (tgt := 57) hx hb dX3_isBlocked_28 (by decide) (fun c8 => ?_) (fun c8 => ?_)
        · refine lv_iconst (v := nI 0) hx hb dX3_isBlocked_57 (by decide) ?_
          refine lv_istore (lv' := [(4, .int (nI 0)), (0, .ref (q 0)), (1, .int (nI t)), (2, .int (bI (bb = true))), (3, .int (nI i))]) hx hb dX3_isBlocked_58 hl (by decide) rfl (fun ls hl => ?_)
          exact cut60 _ _ _ _ (bI_f (by simp [c8])) hP hD hS (lv_sub hl [1, 2, 3, 4, 0] rfl)
        · refine lv_aload_n hx hb dX3_isBlocked_31 rfl (lv_at hl 0 rfl) ?_
          refine va_get (D := D) (ci := 3) (v := .ref (q 9)) (C := RX3) (T := TX3) (N := 24) hx hb hts iwX3_isBlocked_X3 hown hK hP 0 rfl rfl 15 (by decide) (hts (Cond.fieldLink RX3 36 "ShareDiskModel" "first" "[I") mwX3_isBlocked_3) (fun _ h9 => h9) rfl dX3_isBlocked_32 ?_
          refine lv_iload_n hx hb dX3_isBlocked_35 rfl (lv_at hl 1 rfl) ?_
          refine aI hx hb hK hP 9 1 rfl rfl (ix5 ht) dX3_isBlocked_36 ?_
          refine lv_aload_n hx hb dX3_isBlocked_37 rfl (lv_at hl 0 rfl) ?_
          refine va_get (D := D) (ci := 3) (v := .ref (q 9)) (C := RX3) (T := TX3) (N := 24) hx hb hts iwX3_isBlocked_X3 hown hK hP 0 rfl rfl 15 (by decide) (hts (Cond.fieldLink RX3 36 "ShareDiskModel" "first" "[I") mwX3_isBlocked_3) (fun _ h9 => h9) rfl dX3_isBlocked_38 ?_
          refine lv_iload_n hx hb dX3_isBlocked_41 rfl (lv_at hl 3 rfl) ?_
          refine aI hx hb hK hP 9 1 rfl rfl (ix5 (by omega)) dX3_isBlocked_42 ?_
          refine lv_aload_n hx hb dX3_isBlocked_43 rfl (lv_at hl 0 rfl) ?_
          refine va_get (D := D) (ci := 3) (v := .ref (q 10)) (C := RX3) (T := TX3) (N := 24) hx hb hts iwX3_isBlocked_X3 hown hK hP 0 rfl rfl 16 (by decide) (hts (Cond.fieldLink RX3 39 "ShareDiskModel" "counts" "[I") mwX3_isBlocked_4) (fun _ h9 => h9) rfl dX3_isBlocked_44 ?_
          refine lv_iload_n hx hb dX3_isBlocked_47 rfl (lv_at hl 3 rfl) ?_
          refine aI hx hb hK hP 10 1 rfl rfl (ix5 (by omega)) dX3_isBlocked_48 ?_
          refine lv_iadd hx hb dX3_isBlocked_49 ?_
          refine lv_icmp_ge (tgt := 57) hx hb dX3_isBlocked_50 (by decide) (fun c9 => ?_) (fun c9 => ?_)
          · refine lv_iconst (v := nI 0) hx hb dX3_isBlocked_57 (by decide) ?_
            refine lv_istore (lv' := [(4, .int (nI 0)), (0, .ref (q 0)), (1, .int (nI t)), (2, .int (bI (bb = true))), (3, .int (nI i))]) hx hb dX3_isBlocked_58 hl (by decide) rfl (fun ls hl => ?_)
            exact cut60 _ _ _ _ (bI_f (by simp [c9])) hP hD hS (lv_sub hl [1, 2, 3, 4, 0] rfl)
          · refine lv_iconst (v := nI 1) hx hb dX3_isBlocked_53 (by decide) ?_
            refine lv_goto (tgt := 58) hx hb dX3_isBlocked_54 (by decide) ?_
            refine lv_istore (lv' := [(4, .int (nI 1)), (0, .ref (q 0)), (1, .int (nI t)), (2, .int (bI (bb = true))), (3, .int (nI i))]) hx hb dX3_isBlocked_58 hl (by decide) rfl (fun ls hl => ?_)
            exact cut60 _ _ _ _ (bI_t ⟨c8, c9⟩) hP hD hS (lv_sub hl [1, 2, 3, 4, 0] rfl)
  exact loop4 _ 0 false (by omega) rfl (Nat.lt_succ_self _) s.heap _ _ hP hD hS (lv_sub hl [2, 3, 1, 0] rfl)
theorem mwX3_canGo_0 : Cond.fieldLink RX3 48 "ShareDiskModel" "done" "[Z" ∈ wsX3_canGo := by decide +kernel
theorem iwX3_canGo_X3 : ∀ w ∈ wsX30, w ∈ wsX3_canGo := by decide +kernel
set_option maxHeartbeats 4000000 in
set_option maxRecDepth 100000 in
theorem kX3_canGo (l : Launch) (D : va_G) (k : Nat → ClassId) (q : Nat → Nat) (zz : Nat) (tr : Int32) (ck : Int64) (hd : Int32) (po : Int64) (th we bu : Nat → Int32) (tg se gr ba : Nat → Int64) (tn sn un : Nat) (ow fi sz so wr dn ur : Nat → Int32) (dl : Nat → Int64) (sl le : Int32) (t : Nat) (ht : t < 500) : MI l yX3_canGo wsX3_canGo ({ frames := 1, cells := 0, slots := 0, locals := 24 } : Room) D k (MoW q k tr ck hd po th we bu tg se gr ba tn sn un ow fi sz so wr dn ur dl sl le) zz [.ref (q 0), .int (nI t)] (fun r9 w9 => r9 = (bI (cgP dn ow wr fi sz t)) ∧ w9 = MoW q k tr ck hd po th we bu tg se gr ba tn sn un ow fi sz so wr dn ur dl sl le) 0 0 := by
  refine bodyOf (Qc := fun A => QI D k (fun r9 w9 => r9 = (bI (cgP dn ow wr fi sz t)) ∧ w9 = MoW q k tr ck hd po th we bu tg se gr ba tn sn un ow fi sz so wr dn ur dl sl le) A) (cc := cX3_canGo) (maxL := 2) (ret := (some .boolean)) (by decide) rfl (Nat.le_of_ble_eq_true rfl) ?_
  intro p e s m below meth c A ls hc hA hK hP hD hS hl
  obtain ⟨hx, hb, hml, hr, hts, hown, hlocks, hin⟩ := (show _ from hc)
  have hl : lv_has ls 2 [(0, .ref (q 0)), (1, .int (nI t))] := hl
  refine lv_aload_n hx hb dX3_canGo_0 rfl (lv_at hl 0 rfl) ?_
  refine va_get (D := D) (ci := 3) (v := .ref (q 13)) (C := RX3) (T := TX3) (N := 24) hx hb hts iwX3_canGo_X3 hown hK hP 0 rfl rfl 19 (by decide) (hts (Cond.fieldLink RX3 48 "ShareDiskModel" "done" "[Z") mwX3_canGo_0) (fun _ h9 => h9) rfl dX3_canGo_1 ?_
  refine lv_iload_n hx hb dX3_canGo_4 rfl (lv_at hl 1 rfl) ?_
  refine aZ hx hb hK hP 13 0 rfl rfl (ix5 ht) dX3_canGo_5 ?_
  refine lv_if_ne (tgt := 21) hx hb dX3_canGo_6 (by decide) (fun c1 => ?_) (fun c1 => ?_)
  · refine lv_iconst (v := nI 0) hx hb dX3_canGo_21 (by decide) ?_
    exact retZ hc dX3_canGo_22 hK hP hD hS (Or.inl rfl) (⟨bI_f (fun h => c1 h.1), rfl⟩) (Nat.le_of_ble_eq_true rfl) (Nat.le_of_ble_eq_true rfl)
  · refine lv_aload_n hx hb dX3_canGo_9 rfl (lv_at hl 0 rfl) ?_
    refine lv_iload_n hx hb dX3_canGo_10 rfl (lv_at hl 1 rfl) ?_
    refine goVI0 hc (kX3_isBlocked l D k q s.heap.size tr ck hd po th we bu tg se gr ba tn sn un ow fi sz so wr dn ur dl sl le t (ht)) (cwV 1 hts gX3_canGo_X3_isBlocked rfl rfl rfl (by decide +kernel) ⟨(Nat.le_of_ble_eq_true rfl), (Nat.le_of_ble_eq_true rfl)⟩) hP hD hK hS hA (ci := 3) (q0 := 0) rfl rfl rfl hl.1 rfl (Nat.le_of_ble_eq_true rfl) dX3_canGo_11 (Nat.le_of_ble_eq_true rfl) (Nat.le_of_ble_eq_true rfl) (fun r9 B9 H locs hq hP hD hS => ?_)
    obtain ⟨hr9, rfl⟩ := hq
    subst hr9
    have hP : va_P D vwCl (MoW q k tr ck hd po th we bu tg se gr ba tn sn un ow fi sz so wr dn ur dl sl le) H := hP
    have hD : va_D A (MoW q k tr ck hd po th we bu tg se gr ba tn sn un ow fi sz so wr dn ur dl sl le) := hD
    refine lv_if_ne (tgt := 21) hx hb dX3_canGo_14 (by decide) (fun c2 => ?_) (fun c2 => ?_)
    · refine lv_iconst (v := nI 0) hx hb dX3_canGo_21 (by decide) ?_
      exact retZ hc dX3_canGo_22 hK hP hD hS (Or.inl rfl) (⟨bI_f (fun h => h.2 (bI_1 c2)), rfl⟩) (Nat.le_of_ble_eq_true rfl) (Nat.le_of_ble_eq_true rfl)
    · refine lv_iconst (v := nI 1) hx hb dX3_canGo_17 (by decide) ?_
      refine lv_goto (tgt := 22) hx hb dX3_canGo_18 (by decide) ?_
      exact retZ hc dX3_canGo_22 hK hP hD hS (Or.inr rfl) (⟨bI_t ⟨c1, bI_0 c2⟩, rfl⟩) (Nat.le_of_ble_eq_true rfl) (Nat.le_of_ble_eq_true rfl)
theorem mwX3_ahead_0 : Cond.fieldLink RX3 36 "ShareDiskModel" "first" "[I" ∈ wsX3_ahead := by decide +kernel
theorem mwX3_ahead_1 : Cond.fieldLink RX3 120 "ShareDiskModel" "head" "I" ∈ wsX3_ahead := by decide +kernel
theorem mwX3_ahead_2 : Cond.constant RX3 123 (100000) ∈ wsX3_ahead := by decide +kernel
theorem iwX3_ahead_X3 : ∀ w ∈ wsX30, w ∈ wsX3_ahead := by decide +kernel
set_option maxHeartbeats 4000000 in
set_option maxRecDepth 100000 in
theorem kX3_ahead (l : Launch) (D : va_G) (k : Nat → ClassId) (q : Nat → Nat) (zz : Nat) (tr : Int32) (ck : Int64) (hd : Int32) (po : Int64) (th we bu : Nat → Int32) (tg se gr ba : Nat → Int64) (tn sn un : Nat) (ow fi sz so wr dn ur : Nat → Int32) (dl : Nat → Int64) (sl le : Int32) (t : Nat) (ht : t < 500) : MI l yX3_ahead wsX3_ahead ({ frames := 0, cells := 0, slots := 0, locals := 0 } : Room) D k (MoW q k tr ck hd po th we bu tg se gr ba tn sn un ow fi sz so wr dn ur dl sl le) zz [.ref (q 0), .int (nI t)] (fun r9 w9 => r9 = (ahF fi hd t) ∧ w9 = MoW q k tr ck hd po th we bu tg se gr ba tn sn un ow fi sz so wr dn ur dl sl le) 0 0 := by
  refine bodyOf (Qc := fun A => QI D k (fun r9 w9 => r9 = (ahF fi hd t) ∧ w9 = MoW q k tr ck hd po th we bu tg se gr ba tn sn un ow fi sz so wr dn ur dl sl le) A) (cc := cX3_ahead) (maxL := 2) (ret := (some .int)) (by decide) rfl (Nat.le_of_ble_eq_true rfl) ?_
  intro p e s m below meth c A ls hc hA hK hP hD hS hl
  obtain ⟨hx, hb, hml, hr, hts, hown, hlocks, hin⟩ := (show _ from hc)
  have hl : lv_has ls 2 [(0, .ref (q 0)), (1, .int (nI t))] := hl
  refine lv_aload_n hx hb dX3_ahead_0 rfl (lv_at hl 0 rfl) ?_
  refine va_get (D := D) (ci := 3) (v := .ref (q 9)) (C := RX3) (T := TX3) (N := 24) hx hb hts iwX3_ahead_X3 hown hK hP 0 rfl rfl 15 (by decide) (hts (Cond.fieldLink RX3 36 "ShareDiskModel" "first" "[I") mwX3_ahead_0) (fun _ h9 => h9) rfl dX3_ahead_1 ?_
  refine lv_iload_n hx hb dX3_ahead_4 rfl (lv_at hl 1 rfl) ?_
  refine aI hx hb hK hP 9 1 rfl rfl (ix5 ht) dX3_ahead_5 ?_
  refine lv_aload_n hx hb dX3_ahead_6 rfl (lv_at hl 0 rfl) ?_
  refine va_get (D := D) (ci := 3) (v := .int hd) (C := RX3) (T := TX3) (N := 24) hx hb hts iwX3_ahead_X3 hown hK hP 0 rfl rfl 2 (by decide) (hts (Cond.fieldLink RX3 120 "ShareDiskModel" "head" "I") mwX3_ahead_1) (fun _ h9 => h9) rfl dX3_ahead_7 ?_
  refine lv_icmp_ge (tgt := 25) hx hb dX3_ahead_10 (by decide) (fun c1 => ?_) (fun c1 => ?_)
  · refine lv_aload_n hx hb dX3_ahead_25 rfl (lv_at hl 0 rfl) ?_
    refine va_get (D := D) (ci := 3) (v := .ref (q 9)) (C := RX3) (T := TX3) (N := 24) hx hb hts iwX3_ahead_X3 hown hK hP 0 rfl rfl 15 (by decide) (hts (Cond.fieldLink RX3 36 "ShareDiskModel" "first" "[I") mwX3_ahead_0) (fun _ h9 => h9) rfl dX3_ahead_26 ?_
    refine lv_iload_n hx hb dX3_ahead_29 rfl (lv_at hl 1 rfl) ?_
    refine aI hx hb hK hP 9 1 rfl rfl (ix5 ht) dX3_ahead_30 ?_
    exact retI hc dX3_ahead_31 hK hP hD hS (⟨by simp [ahF, c1], rfl⟩) (Nat.le_of_ble_eq_true rfl) (Nat.le_of_ble_eq_true rfl)
  · refine lv_aload_n hx hb dX3_ahead_13 rfl (lv_at hl 0 rfl) ?_
    refine va_get (D := D) (ci := 3) (v := .ref (q 9)) (C := RX3) (T := TX3) (N := 24) hx hb hts iwX3_ahead_X3 hown hK hP 0 rfl rfl 15 (by decide) (hts (Cond.fieldLink RX3 36 "ShareDiskModel" "first" "[I") mwX3_ahead_0) (fun _ h9 => h9) rfl dX3_ahead_14 ?_
    refine lv_iload_n hx hb dX3_ahead_17 rfl (lv_at hl 1 rfl) ?_
    refine aI hx hb hK hP 9 1 rfl rfl (ix5 ht) dX3_ahead_18 ?_
    refine lv_ldc (v := nI 100000) hx hb hown (hts (.constant RX3 123 (100000)) mwX3_ahead_2) dX3_ahead_19 ?_
    refine lv_iadd hx hb dX3_ahead_21 ?_
    refine lv_goto (tgt := 31) hx hb dX3_ahead_22 (by decide) ?_
    exact retI hc dX3_ahead_31 hK hP hD hS (⟨by simp [ahF, c1], rfl⟩) (Nat.le_of_ble_eq_true rfl) (Nat.le_of_ble_eq_true rfl)
theorem mwX3_due_0 : Cond.fieldLink RX3 70 "ShareDiskModel" "tickets" "I" ∈ wsX3_due := by decide +kernel
theorem mwX3_due_1 : Cond.fieldLink RX3 54 "ShareDiskModel" "deadlines" "[J" ∈ wsX3_due := by decide +kernel
theorem mwX3_due_2 : Cond.fieldLink RX3 107 "ShareDiskModel" "clock" "J" ∈ wsX3_due := by decide +kernel
theorem iwX3_due_X3 : ∀ w ∈ wsX30, w ∈ wsX3_due := by decide +kernel
set_option maxHeartbeats 4000000 in
set_option maxRecDepth 100000 in
theorem kX3_due (l : Launch) (D : va_G) (k : Nat → ClassId) (q : Nat → Nat) (zz : Nat) (tr : Int32) (ck : Int64) (hd : Int32) (po : Int64) (th we bu : Nat → Int32) (tg se gr ba : Nat → Int64) (tn sn un : Nat) (ow fi sz so wr dn ur : Nat → Int32) (dl : Nat → Int64) (sl le : Int32) (htn : tn ≤ 500) : MI l yX3_due wsX3_due ({ frames := 2, cells := 0, slots := 0, locals := 45 } : Room) D k (MoW q k tr ck hd po th we bu tg se gr ba tn sn un ow fi sz so wr dn ur dl sl le) zz [.ref (q 0)] (fun r9 w9 => r9 = (oI (duF dn ow wr fi sz dl ck tn)) ∧ w9 = MoW q k tr ck hd po th we bu tg se gr ba tn sn un ow fi sz so wr dn ur dl sl le) 0 0 := by
  refine bodyOf (Qc := fun A => QI D k (fun r9 w9 => r9 = (oI (duF dn ow wr fi sz dl ck tn)) ∧ w9 = MoW q k tr ck hd po th we bu tg se gr ba tn sn un ow fi sz so wr dn ur dl sl le) A) (cc := cX3_due) (maxL := 3) (ret := (some .int)) (by decide) rfl (Nat.le_of_ble_eq_true rfl) ?_
  intro p e s m below meth c A ls hc hA hK hP hD hS hl
  obtain ⟨hx, hb, hml, hr, hts, hown, hlocks, hin⟩ := (show _ from hc)
  have hl : lv_has ls 3 [(0, .ref (q 0))] := hl
  refine lv_iconst (v := (-1)) hx hb dX3_due_0 (by decide) ?_
  refine lv_istore_n (lv' := [(1, .int (-1)), (0, .ref (q 0))]) hx hb dX3_due_1 rfl hl (by decide) rfl (fun ls hl => ?_)
  refine lv_iconst (v := nI 0) hx hb dX3_due_2 (by decide) ?_
  refine lv_istore_n (lv' := [(2, .int (nI 0)), (1, .int (-1)), (0, .ref (q 0))]) hx hb dX3_due_3 rfl hl (by decide) rfl (fun ls hl => ?_)
  have loop4 : ∀ (n : Nat) (i : Nat) (bt : Option Nat), (i ≤ tn) → (∀ j, bt = some j → j < tn) → (bt = duF dn ow wr fi sz dl ck i) → tn - i < n → ∀ (H : Heap) (locs : List Loc) (ls : Array Slot), va_P D vwCl (MoW q k tr ck hd po th we bu tg se gr ba tn sn un ow fi sz so wr dn ur dl sl le) H → va_D A (MoW q k tr ck hd po th we bu tg se gr ba tn sn un ow fi sz so wr dn ur dl sl le) → va_S A s.heap H locs → lv_has ls 3 [(0, .ref (q 0)), (1, .int (oI bt)), (2, .int (nI i))] → W p l e ({ frames := 2, cells := 0, slots := 0, locals := 45 } : Room) s m [.ref (q 0)].toArray below meth c H locs 0 0 (MQ below (QI D k (fun r9 w9 => r9 = (oI (duF dn ow wr fi sz dl ck tn)) ∧ w9 = MoW q k tr ck hd po th we bu tg se gr ba tn sn un ow fi sz so wr dn ur dl sl le) A) [.ref (q 0)].toArray s 0 0 A) (F0 m 4 ls []) := by
    intro n
    induction n with
    | zero => intro i bt hi hj hbt hn9; exact absurd hn9 (Nat.not_lt_zero _)
    | succ n ih =>
      intro i bt hi hj hbt hn9 H locs ls hP hD hS hl
      refine lv_iload_n hx hb dX3_due_4 rfl (lv_at hl 2 rfl) ?_
      refine lv_aload_n hx hb dX3_due_5 rfl (lv_at hl 0 rfl) ?_
      refine va_get (D := D) (ci := 3) (v := .int (nI tn)) (C := RX3) (T := TX3) (N := 24) hx hb hts iwX3_due_X3 hown hK hP 0 rfl rfl 11 (by decide) (hts (Cond.fieldLink RX3 70 "ShareDiskModel" "tickets" "I") mwX3_due_0) (fun _ h9 => h9) rfl dX3_due_6 ?_
      refine lv_icmp_ge (tgt := 70) hx hb dX3_due_9 (by decide) (fun c1 => ?_) (fun c1 => ?_)
      · have hi8 : i = tn := lp_ge (by omega) hi c1
        refine lv_iload_n hx hb dX3_due_70 rfl (lv_at hl 1 rfl) ?_
        exact retI hc dX3_due_71 hK hP hD hS (⟨by rw [hbt, hi8], rfl⟩) (Nat.le_of_ble_eq_true rfl) (Nat.le_of_ble_eq_true rfl)
      · have hi8 : i < tn := lp_lt (by omega) hi c1
        refine lv_aload_n hx hb dX3_due_12 rfl (lv_at hl 0 rfl) ?_
        refine lv_iload_n hx hb dX3_due_13 rfl (lv_at hl 2 rfl) ?_
        refine goVI0 hc (kX3_canGo l D k q H.size tr ck hd po th we bu tg se gr ba tn sn un ow fi sz so wr dn ur dl sl le i (by first | omega | (have := hj j rfl; omega))) (cwV 1 hts gX3_due_X3_canGo rfl rfl rfl (by decide +kernel) ⟨(Nat.le_of_ble_eq_true rfl), (Nat.le_of_ble_eq_true rfl)⟩) hP hD hK hS hA (ci := 3) (q0 := 0) rfl rfl rfl hl.1 rfl (Nat.le_of_ble_eq_true rfl) dX3_due_14 (Nat.le_of_ble_eq_true rfl) (Nat.le_of_ble_eq_true rfl) (fun r9 B9 H locs hq hP hD hS => ?_)
        obtain ⟨hr9, rfl⟩ := hq
        subst hr9
        have hP : va_P D vwCl (MoW q k tr ck hd po th we bu tg se gr ba tn sn un ow fi sz so wr dn ur dl sl le) H := hP
        have hD : va_D A (MoW q k tr ck hd po th we bu tg se gr ba tn sn un ow fi sz so wr dn ur dl sl le) := hD
        refine lv_if_eq (tgt := 64) hx hb dX3_due_17 (by decide) (fun c2 => ?_) (fun c2 => ?_)
        · refine lv_iinc (v := nI (i + 1)) (lv' := [(2, .int (nI (i + 1))), (0, .ref (q 0)), (1, .int (oI bt))]) hx hb dX3_due_64 hl (k := 2) rfl (by rw [show Int32.ofInt 1 = nI 1 by decide, nI_add]) (by decide) rfl (fun ls hl => ?_)
          refine lv_goto (tgt := 4) hx hb dX3_due_67 (by decide) ?_
          exact ih (i + 1) bt (by omega) hj (by rw [hbt]; simp only [duF]; rw [if_neg (bI_0 c2)]) (by omega) _ _ _ hP hD hS (lv_sub hl [1, 2, 0] rfl)
        · refine lv_aload_n hx hb dX3_due_20 rfl (lv_at hl 0 rfl) ?_
          refine va_get (D := D) (ci := 3) (v := .ref (q 15)) (C := RX3) (T := TX3) (N := 24) hx hb hts iwX3_due_X3 hown hK hP 0 rfl rfl 21 (by decide) (hts (Cond.fieldLink RX3 54 "ShareDiskModel" "deadlines" "[J") mwX3_due_1) (fun _ h9 => h9) rfl dX3_due_21 ?_
          refine lv_iload_n hx hb dX3_due_24 rfl (lv_at hl 2 rfl) ?_
          refine aJ hx hb hK hP 15 2 rfl rfl (ix5 (by omega)) dX3_due_25 ?_
          refine lv_aload_n hx hb dX3_due_26 rfl (lv_at hl 0 rfl) ?_
          refine va_get (D := D) (ci := 3) (v := .long ck) (C := RX3) (T := TX3) (N := 24) hx hb hts iwX3_due_X3 hown hK hP 0 rfl rfl 1 (by decide) (hts (Cond.fieldLink RX3 107 "ShareDiskModel" "clock" "J") mwX3_due_2) (fun _ h9 => h9) rfl dX3_due_27 ?_
          refine W.lcmp hx hb dX3_due_30 ?_
          refine lv_if_le (tgt := 37) hx hb dX3_due_31 (by decide) (fun c3 => ?_) (fun c3 => ?_)
          · rw [lg_cmp_le] at c3
            rcases bt with _ | j
            · have hl : lv_has ls 3 [(0, .ref (q 0)), (1, .int (-1)), (2, .int (nI i))] := hl
              refine lv_iload_n hx hb dX3_due_37 rfl (lv_at hl 1 rfl) ?_
              refine lv_iconst (v := (-1)) hx hb dX3_due_38 (by decide) ?_
              refine lv_icmp_eq (tgt := 58) hx hb dX3_due_39 (by decide) (fun c4 => ?_) (fun c4 => False.elim (c4 rfl))
              refine lv_iload_n hx hb dX3_due_58 rfl (lv_at hl 2 rfl) ?_
              refine lv_goto (tgt := 63) hx hb dX3_due_59 (by decide) ?_
              refine lv_istore_n (lv' := [(1, .int (nI i)), (0, .ref (q 0)), (2, .int (nI i))]) hx hb dX3_due_63 rfl hl (by decide) rfl (fun ls hl => ?_)
              refine lv_iinc (v := nI (i + 1)) (lv' := [(2, .int (nI (i + 1))), (1, .int (nI i)), (0, .ref (q 0))]) hx hb dX3_due_64 hl (k := 2) rfl (by rw [show Int32.ofInt 1 = nI 1 by decide, nI_add]) (by decide) rfl (fun ls hl => ?_)
              refine lv_goto (tgt := 4) hx hb dX3_due_67 (by decide) ?_
              exact ih (i + 1) (some i) (by omega) (fun j h => by cases h; omega) (by simp only [duF, ← hbt]; rw [if_pos (bI_1 c2), if_pos c3]) (by omega) _ _ _ hP hD hS (lv_sub hl [2, 1, 0] rfl)
            · have hl : lv_has ls 3 [(0, .ref (q 0)), (1, .int (nI j)), (2, .int (nI i))] := hl
              refine lv_iload_n hx hb dX3_due_37 rfl (lv_at hl 1 rfl) ?_
              refine lv_iconst (v := (-1)) hx hb dX3_due_38 (by decide) ?_
              refine lv_icmp_eq (tgt := 58) hx hb dX3_due_39 (by decide) (fun c5 => False.elim (nI_ne_m1 (show j < 2 ^ 31 by have := hj j rfl; omega) c5)) (fun c5 => ?_)
              refine lv_aload_n hx hb dX3_due_42 rfl (lv_at hl 0 rfl) ?_
              refine va_get (D := D) (ci := 3) (v := .ref (q 15)) (C := RX3) (T := TX3) (N := 24) hx hb hts iwX3_due_X3 hown hK hP 0 rfl rfl 21 (by decide) (hts (Cond.fieldLink RX3 54 "ShareDiskModel" "deadlines" "[J") mwX3_due_1) (fun _ h9 => h9) rfl dX3_due_43 ?_
              refine lv_iload_n hx hb dX3_due_46 rfl (lv_at hl 2 rfl) ?_
              refine aJ hx hb hK hP 15 2 rfl rfl (ix5 (by omega)) dX3_due_47 ?_
              refine lv_aload_n hx hb dX3_due_48 rfl (lv_at hl 0 rfl) ?_
              refine va_get (D := D) (ci := 3) (v := .ref (q 15)) (C := RX3) (T := TX3) (N := 24) hx hb hts iwX3_due_X3 hown hK hP 0 rfl rfl 21 (by decide) (hts (Cond.fieldLink RX3 54 "ShareDiskModel" "deadlines" "[J") mwX3_due_1) (fun _ h9 => h9) rfl dX3_due_49 ?_
              refine lv_iload_n hx hb dX3_due_52 rfl (lv_at hl 1 rfl) ?_
              refine aJ hx hb hK hP 15 2 rfl rfl (ix5 (by have := hj j rfl; omega)) dX3_due_53 ?_
              refine W.lcmp hx hb dX3_due_54 ?_
              refine lv_if_ge (tgt := 62) hx hb dX3_due_55 (by decide) (fun c6 => ?_) (fun c6 => ?_)
              · rw [lg_cmp_ge] at c6
                refine lv_iload_n hx hb dX3_due_62 rfl (lv_at hl 1 rfl) ?_
                refine lv_istore_n (lv' := [(1, .int (nI j)), (0, .ref (q 0)), (2, .int (nI i))]) hx hb dX3_due_63 rfl hl (by decide) rfl (fun ls hl => ?_)
                refine lv_iinc (v := nI (i + 1)) (lv' := [(2, .int (nI (i + 1))), (1, .int (nI j)), (0, .ref (q 0))]) hx hb dX3_due_64 hl (k := 2) rfl (by rw [show Int32.ofInt 1 = nI 1 by decide, nI_add]) (by decide) rfl (fun ls hl => ?_)
                refine lv_goto (tgt := 4) hx hb dX3_due_67 (by decide) ?_
                exact ih (i + 1) (some j) (by omega) hj (by simp only [duF, ← hbt]; rw [if_pos (bI_1 c2), if_pos c3, if_pos c6]) (by omega) _ _ _ hP hD hS (lv_sub hl [2, 1, 0] rfl)
              · rw [lg_cmp_ge] at c6
                refine lv_iload_n hx hb dX3_due_58 rfl (lv_at hl 2 rfl) ?_
                refine lv_goto (tgt := 63) hx hb dX3_due_59 (by decide) ?_
                refine lv_istore_n (lv' := [(1, .int (nI i)), (0, .ref (q 0)), (2, .int (nI i))]) hx hb dX3_due_63 rfl hl (by decide) rfl (fun ls hl => ?_)
                refine lv_iinc (v := nI (i + 1)) (lv' := [(2, .int (nI (i + 1))), (1, .int (nI i)), (0, .ref (q 0))]) hx hb dX3_due_64 hl (k := 2) rfl (by rw [show Int32.ofInt 1 = nI 1 by decide, nI_add]) (by decide) rfl (fun ls hl => ?_)
                refine lv_goto (tgt := 4) hx hb dX3_due_67 (by decide) ?_
                exact ih (i + 1) (some i) (by omega) (fun j h => by cases h; omega) (by simp only [duF, ← hbt]; rw [if_pos (bI_1 c2), if_pos c3, if_neg c6]) (by omega) _ _ _ hP hD hS (lv_sub hl [2, 1, 0] rfl)
          · rw [lg_cmp_le] at c3
            refine lv_goto (tgt := 64) hx hb dX3_due_34 (by decide) ?_
            refine lv_iinc (v := nI (i + 1)) (lv' := [(2, .int (nI (i + 1))), (0, .ref (q 0)), (1, .int (oI bt))]) hx hb dX3_due_64 hl (k := 2) rfl (by rw [show Int32.ofInt 1 = nI 1 by decide, nI_add]) (by decide) rfl (fun ls hl => ?_)
            refine lv_goto (tgt := 4) hx hb dX3_due_67 (by decide) ?_
            exact ih (i + 1) bt (by omega) hj (by rw [hbt]; simp only [duF]; rw [if_pos (bI_1 c2), if_neg c3]) (by omega) _ _ _ hP hD hS (lv_sub hl [1, 2, 0] rfl)
  exact loop4 _ 0 none (by omega) (fun j h => by cases h) rfl (Nat.lt_succ_self _) s.heap _ _ hP hD hS (lv_sub hl [2, 1, 0] rfl)
theorem mwX3_next_0 : Cond.fieldLink RX3 70 "ShareDiskModel" "tickets" "I" ∈ wsX3_next := by decide +kernel
theorem mwX3_next_1 : Cond.fieldLink RX3 33 "ShareDiskModel" "clientOf" "[I" ∈ wsX3_next := by decide +kernel
theorem mwX3_next_2 : Cond.fieldLink RX3 57 "ShareDiskModel" "slice" "I" ∈ wsX3_next := by decide +kernel
theorem iwX3_next_X3 : ∀ w ∈ wsX30, w ∈ wsX3_next := by decide +kernel
set_option maxHeartbeats 4000000 in
set_option maxRecDepth 100000 in
theorem kX3_next (l : Launch) (D : va_G) (k : Nat → ClassId) (q : Nat → Nat) (zz : Nat) (tr : Int32) (ck : Int64) (hd : Int32) (po : Int64) (th we bu : Nat → Int32) (tg se gr ba : Nat → Int64) (tn sn un : Nat) (ow fi sz so wr dn ur : Nat → Int32) (dl : Nat → Int64) (sl le : Int32) (htn : tn ≤ 500) : MI l yX3_next wsX3_next ({ frames := 2, cells := 0, slots := 0, locals := 45 } : Room) D k (MoW q k tr ck hd po th we bu tg se gr ba tn sn un ow fi sz so wr dn ur dl sl le) zz [.ref (q 0)] (fun r9 w9 => r9 = (oI (nxF dn ow wr fi sz sl hd tn)) ∧ w9 = MoW q k tr ck hd po th we bu tg se gr ba tn sn un ow fi sz so wr dn ur dl sl le) 0 0 := by
  refine bodyOf (Qc := fun A => QI D k (fun r9 w9 => r9 = (oI (nxF dn ow wr fi sz sl hd tn)) ∧ w9 = MoW q k tr ck hd po th we bu tg se gr ba tn sn un ow fi sz so wr dn ur dl sl le) A) (cc := cX3_next) (maxL := 3) (ret := (some .int)) (by decide) rfl (Nat.le_of_ble_eq_true rfl) ?_
  intro p e s m below meth c A ls hc hA hK hP hD hS hl
  obtain ⟨hx, hb, hml, hr, hts, hown, hlocks, hin⟩ := (show _ from hc)
  have hl : lv_has ls 3 [(0, .ref (q 0))] := hl
  refine lv_iconst (v := (-1)) hx hb dX3_next_0 (by decide) ?_
  refine lv_istore_n (lv' := [(1, .int (-1)), (0, .ref (q 0))]) hx hb dX3_next_1 rfl hl (by decide) rfl (fun ls hl => ?_)
  refine lv_iconst (v := nI 0) hx hb dX3_next_2 (by decide) ?_
  refine lv_istore_n (lv' := [(2, .int (nI 0)), (1, .int (-1)), (0, .ref (q 0))]) hx hb dX3_next_3 rfl hl (by decide) rfl (fun ls hl => ?_)
  have loop4 : ∀ (n : Nat) (i : Nat) (bt : Option Nat), (i ≤ tn) → (∀ j, bt = some j → j < tn) → (bt = nxF dn ow wr fi sz sl hd i) → tn - i < n → ∀ (H : Heap) (locs : List Loc) (ls : Array Slot), va_P D vwCl (MoW q k tr ck hd po th we bu tg se gr ba tn sn un ow fi sz so wr dn ur dl sl le) H → va_D A (MoW q k tr ck hd po th we bu tg se gr ba tn sn un ow fi sz so wr dn ur dl sl le) → va_S A s.heap H locs → lv_has ls 3 [(0, .ref (q 0)), (1, .int (oI bt)), (2, .int (nI i))] → W p l e ({ frames := 2, cells := 0, slots := 0, locals := 45 } : Room) s m [.ref (q 0)].toArray below meth c H locs 0 0 (MQ below (QI D k (fun r9 w9 => r9 = (oI (nxF dn ow wr fi sz sl hd tn)) ∧ w9 = MoW q k tr ck hd po th we bu tg se gr ba tn sn un ow fi sz so wr dn ur dl sl le) A) [.ref (q 0)].toArray s 0 0 A) (F0 m 4 ls []) := by
    intro n
    induction n with
    | zero => intro i bt hi hj hbt hn9; exact absurd hn9 (Nat.not_lt_zero _)
    | succ n ih =>
      intro i bt hi hj hbt hn9 H locs ls hP hD hS hl
      refine lv_iload_n hx hb dX3_next_4 rfl (lv_at hl 2 rfl) ?_
      refine lv_aload_n hx hb dX3_next_5 rfl (lv_at hl 0 rfl) ?_
      refine va_get (D := D) (ci := 3) (v := .int (nI tn)) (C := RX3) (T := TX3) (N := 24) hx hb hts iwX3_next_X3 hown hK hP 0 rfl rfl 11 (by decide) (hts (Cond.fieldLink RX3 70 "ShareDiskModel" "tickets" "I") mwX3_next_0) (fun _ h9 => h9) rfl dX3_next_6 ?_
      refine lv_icmp_ge (tgt := 66) hx hb dX3_next_9 (by decide) (fun c1 => ?_) (fun c1 => ?_)
      · have hi8 : i = tn := lp_ge (by omega) hi c1
        refine lv_iload_n hx hb dX3_next_66 rfl (lv_at hl 1 rfl) ?_
        exact retI hc dX3_next_67 hK hP hD hS (⟨by rw [hbt, hi8], rfl⟩) (Nat.le_of_ble_eq_true rfl) (Nat.le_of_ble_eq_true rfl)
      · have hi8 : i < tn := lp_lt (by omega) hi c1
        refine lv_aload_n hx hb dX3_next_12 rfl (lv_at hl 0 rfl) ?_
        refine va_get (D := D) (ci := 3) (v := .ref (q 8)) (C := RX3) (T := TX3) (N := 24) hx hb hts iwX3_next_X3 hown hK hP 0 rfl rfl 14 (by decide) (hts (Cond.fieldLink RX3 33 "ShareDiskModel" "clientOf" "[I") mwX3_next_1) (fun _ h9 => h9) rfl dX3_next_13 ?_
        refine lv_iload_n hx hb dX3_next_16 rfl (lv_at hl 2 rfl) ?_
        refine aI hx hb hK hP 8 1 rfl rfl (ix5 (by omega)) dX3_next_17 ?_
        refine lv_aload_n hx hb dX3_next_18 rfl (lv_at hl 0 rfl) ?_
        refine va_get (D := D) (ci := 3) (v := .int sl) (C := RX3) (T := TX3) (N := 24) hx hb hts iwX3_next_X3 hown hK hP 0 rfl rfl 22 (by decide) (hts (Cond.fieldLink RX3 57 "ShareDiskModel" "slice" "I") mwX3_next_2) (fun _ h9 => h9) rfl dX3_next_19 ?_
        refine lv_icmp_ne (tgt := 60) hx hb dX3_next_22 (by decide) (fun c2 => ?_) (fun c2 => ?_)
        · refine lv_iinc (v := nI (i + 1)) (lv' := [(2, .int (nI (i + 1))), (0, .ref (q 0)), (1, .int (oI bt))]) hx hb dX3_next_60 hl (k := 2) rfl (by rw [show Int32.ofInt 1 = nI 1 by decide, nI_add]) (by decide) rfl (fun ls hl => ?_)
          refine lv_goto (tgt := 4) hx hb dX3_next_63 (by decide) ?_
          exact ih (i + 1) bt (by omega) hj (by rw [hbt]; simp only [nxF]; rw [if_neg c2]) (by omega) _ _ _ hP hD hS (lv_sub hl [1, 2, 0] rfl)
        · refine lv_aload_n hx hb dX3_next_25 rfl (lv_at hl 0 rfl) ?_
          refine lv_iload_n hx hb dX3_next_26 rfl (lv_at hl 2 rfl) ?_
          refine goVI0 hc (kX3_canGo l D k q H.size tr ck hd po th we bu tg se gr ba tn sn un ow fi sz so wr dn ur dl sl le i (by first | omega | (have := hj j rfl; omega))) (cwV 1 hts gX3_next_X3_canGo rfl rfl rfl (by decide +kernel) ⟨(Nat.le_of_ble_eq_true rfl), (Nat.le_of_ble_eq_true rfl)⟩) hP hD hK hS hA (ci := 3) (q0 := 0) rfl rfl rfl hl.1 rfl (Nat.le_of_ble_eq_true rfl) dX3_next_27 (Nat.le_of_ble_eq_true rfl) (Nat.le_of_ble_eq_true rfl) (fun r9 B9 H locs hq hP hD hS => ?_)
          obtain ⟨hr9, rfl⟩ := hq
          subst hr9
          have hP : va_P D vwCl (MoW q k tr ck hd po th we bu tg se gr ba tn sn un ow fi sz so wr dn ur dl sl le) H := hP
          have hD : va_D A (MoW q k tr ck hd po th we bu tg se gr ba tn sn un ow fi sz so wr dn ur dl sl le) := hD
          refine lv_if_ne (tgt := 36) hx hb dX3_next_30 (by decide) (fun c3 => ?_) (fun c3 => ?_)
          · rcases bt with _ | j
            · have hl : lv_has ls 3 [(0, .ref (q 0)), (1, .int (-1)), (2, .int (nI i))] := hl
              refine lv_iload_n hx hb dX3_next_36 rfl (lv_at hl 1 rfl) ?_
              refine lv_iconst (v := (-1)) hx hb dX3_next_37 (by decide) ?_
              refine lv_icmp_eq (tgt := 54) hx hb dX3_next_38 (by decide) (fun c4 => ?_) (fun c4 => False.elim (c4 rfl))
              refine lv_iload_n hx hb dX3_next_54 rfl (lv_at hl 2 rfl) ?_
              refine lv_goto (tgt := 59) hx hb dX3_next_55 (by decide) ?_
              refine lv_istore_n (lv' := [(1, .int (nI i)), (0, .ref (q 0)), (2, .int (nI i))]) hx hb dX3_next_59 rfl hl (by decide) rfl (fun ls hl => ?_)
              refine lv_iinc (v := nI (i + 1)) (lv' := [(2, .int (nI (i + 1))), (1, .int (nI i)), (0, .ref (q 0))]) hx hb dX3_next_60 hl (k := 2) rfl (by rw [show Int32.ofInt 1 = nI 1 by decide, nI_add]) (by decide) rfl (fun ls hl => ?_)
              refine lv_goto (tgt := 4) hx hb dX3_next_63 (by decide) ?_
              exact ih (i + 1) (some i) (by omega) (fun j h => by cases h; omega) (by simp only [nxF, ← hbt]; rw [if_pos c2, if_pos (bI_1 c3)]) (by omega) _ _ _ hP hD hS (lv_sub hl [2, 1, 0] rfl)
            · have hl : lv_has ls 3 [(0, .ref (q 0)), (1, .int (nI j)), (2, .int (nI i))] := hl
              refine lv_iload_n hx hb dX3_next_36 rfl (lv_at hl 1 rfl) ?_
              refine lv_iconst (v := (-1)) hx hb dX3_next_37 (by decide) ?_
              refine lv_icmp_eq (tgt := 54) hx hb dX3_next_38 (by decide) (fun c5 => False.elim (nI_ne_m1 (show j < 2 ^ 31 by have := hj j rfl; omega) c5)) (fun c5 => ?_)
              refine lv_aload_n hx hb dX3_next_41 rfl (lv_at hl 0 rfl) ?_
              refine lv_iload_n hx hb dX3_next_42 rfl (lv_at hl 2 rfl) ?_
              refine goVI0 hc (kX3_ahead l D k q H.size tr ck hd po th we bu tg se gr ba tn sn un ow fi sz so wr dn ur dl sl le i (by first | omega | (have := hj j rfl; omega))) (cwV 1 hts gX3_next_X3_ahead rfl rfl rfl (by decide +kernel) ⟨(Nat.le_of_ble_eq_true rfl), (Nat.le_of_ble_eq_true rfl)⟩) hP hD hK hS hA (ci := 3) (q0 := 0) rfl rfl rfl hl.1 rfl (Nat.le_of_ble_eq_true rfl) dX3_next_43 (Nat.le_of_ble_eq_true rfl) (Nat.le_of_ble_eq_true rfl) (fun r9 B9 H locs hq hP hD hS => ?_)
              obtain ⟨hr9, rfl⟩ := hq
              subst hr9
              have hP : va_P D vwCl (MoW q k tr ck hd po th we bu tg se gr ba tn sn un ow fi sz so wr dn ur dl sl le) H := hP
              have hD : va_D A (MoW q k tr ck hd po th we bu tg se gr ba tn sn un ow fi sz so wr dn ur dl sl le) := hD
              refine lv_aload_n hx hb dX3_next_46 rfl (lv_at hl 0 rfl) ?_
              refine lv_iload_n hx hb dX3_next_47 rfl (lv_at hl 1 rfl) ?_
              refine goVI0 hc (kX3_ahead l D k q H.size tr ck hd po th we bu tg se gr ba tn sn un ow fi sz so wr dn ur dl sl le j (by first | omega | (have := hj j rfl; omega))) (cwV 1 hts gX3_next_X3_ahead rfl rfl rfl (by decide +kernel) ⟨(Nat.le_of_ble_eq_true rfl), (Nat.le_of_ble_eq_true rfl)⟩) hP hD hK hS hA (ci := 3) (q0 := 0) rfl rfl rfl hl.1 rfl (Nat.le_of_ble_eq_true rfl) dX3_next_48 (Nat.le_of_ble_eq_true rfl) (Nat.le_of_ble_eq_true rfl) (fun r9 B9 H locs hq hP hD hS => ?_)
              obtain ⟨hr9, rfl⟩ := hq
              subst hr9
              have hP : va_P D vwCl (MoW q k tr ck hd po th we bu tg se gr ba tn sn un ow fi sz so wr dn ur dl sl le) H := hP
              have hD : va_D A (MoW q k tr ck hd po th we bu tg se gr ba tn sn un ow fi sz so wr dn ur dl sl le) := hD
              refine lv_icmp_ge (tgt := 58) hx hb dX3_next_51 (by decide) (fun c6 => ?_) (fun c6 => ?_)
              · refine lv_iload_n hx hb dX3_next_58 rfl (lv_at hl 1 rfl) ?_
                refine lv_istore_n (lv' := [(1, .int (nI j)), (0, .ref (q 0)), (2, .int (nI i))]) hx hb dX3_next_59 rfl hl (by decide) rfl (fun ls hl => ?_)
                refine lv_iinc (v := nI (i + 1)) (lv' := [(2, .int (nI (i + 1))), (1, .int (nI j)), (0, .ref (q 0))]) hx hb dX3_next_60 hl (k := 2) rfl (by rw [show Int32.ofInt 1 = nI 1 by decide, nI_add]) (by decide) rfl (fun ls hl => ?_)
                refine lv_goto (tgt := 4) hx hb dX3_next_63 (by decide) ?_
                exact ih (i + 1) (some j) (by omega) hj (by simp only [nxF, ← hbt]; rw [if_pos c2, if_pos (bI_1 c3), if_pos c6]) (by omega) _ _ _ hP hD hS (lv_sub hl [2, 1, 0] rfl)
              · refine lv_iload_n hx hb dX3_next_54 rfl (lv_at hl 2 rfl) ?_
                refine lv_goto (tgt := 59) hx hb dX3_next_55 (by decide) ?_
                refine lv_istore_n (lv' := [(1, .int (nI i)), (0, .ref (q 0)), (2, .int (nI i))]) hx hb dX3_next_59 rfl hl (by decide) rfl (fun ls hl => ?_)
                refine lv_iinc (v := nI (i + 1)) (lv' := [(2, .int (nI (i + 1))), (1, .int (nI i)), (0, .ref (q 0))]) hx hb dX3_next_60 hl (k := 2) rfl (by rw [show Int32.ofInt 1 = nI 1 by decide, nI_add]) (by decide) rfl (fun ls hl => ?_)
                refine lv_goto (tgt := 4) hx hb dX3_next_63 (by decide) ?_
                exact ih (i + 1) (some i) (by omega) (fun j h => by cases h; omega) (by simp only [nxF, ← hbt]; rw [if_pos c2, if_pos (bI_1 c3), if_neg c6]) (by omega) _ _ _ hP hD hS (lv_sub hl [2, 1, 0] rfl)
          · refine lv_goto (tgt := 60) hx hb dX3_next_33 (by decide) ?_
            refine lv_iinc (v := nI (i + 1)) (lv' := [(2, .int (nI (i + 1))), (0, .ref (q 0)), (1, .int (oI bt))]) hx hb dX3_next_60 hl (k := 2) rfl (by rw [show Int32.ofInt 1 = nI 1 by decide, nI_add]) (by decide) rfl (fun ls hl => ?_)
            refine lv_goto (tgt := 4) hx hb dX3_next_63 (by decide) ?_
            exact ih (i + 1) bt (by omega) hj (by rw [hbt]; simp only [nxF]; rw [if_pos c2, if_neg (bI_0 c3)]) (by omega) _ _ _ hP hD hS (lv_sub hl [1, 2, 0] rfl)
  exact loop4 _ 0 none (by omega) (fun j h => by cases h) rfl (Nat.lt_succ_self _) s.heap _ _ hP hD hS (lv_sub hl [2, 1, 0] rfl)
theorem mwX3_choose_0 : Cond.fieldLink RX3 17 "ShareDiskModel" "budgets" "[I" ∈ wsX3_choose := by decide +kernel
theorem mwX3_choose_1 : Cond.fieldLink RX3 57 "ShareDiskModel" "slice" "I" ∈ wsX3_choose := by decide +kernel
theorem mwX3_choose_2 : Cond.fieldLink RX3 92 "ShareDiskModel" "left" "I" ∈ wsX3_choose := by decide +kernel
theorem mwX3_choose_3 : Cond.fieldLink RX3 20 "ShareDiskModel" "tags" "[J" ∈ wsX3_choose := by decide +kernel
theorem iwX3_choose_X3 : ∀ w ∈ wsX30, w ∈ wsX3_choose := by decide +kernel
set_option maxHeartbeats 4000000 in
set_option maxRecDepth 100000 in
theorem kX3_choose (l : Launch) (D : va_G) (k : Nat → ClassId) (q : Nat → Nat) (zz : Nat) (tr : Int32) (ck : Int64) (hd : Int32) (po : Int64) (th we bu : Nat → Int32) (tg se gr ba : Nat → Int64) (tn sn un : Nat) (ow fi sz so wr dn ur : Nat → Int32) (dl : Nat → Int64) (sl le : Int32) (jj : Nat) (htn : tn ≤ 500) (hsl : sl = -1) (hjj : nit (wcI dn ow tn) tg 8 = some jj) : MV l yX3_choose wsX3_choose ({ frames := 1, cells := 0, slots := 0, locals := 23 } : Room) D k (MoW q k tr ck hd po th we bu tg se gr ba tn sn un ow fi sz so wr dn ur dl sl le) zz [.ref (q 0)] (fun w9 => w9 = MoW q k tr ck hd po th we bu (vp_updL tg 8 (tg jj)) se gr ba tn sn un ow fi sz so wr dn ur dl (nI jj) (bu jj)) 0 0 := by
  refine bodyOf (Qc := fun A => QV D k (fun w9 => w9 = MoW q k tr ck hd po th we bu (vp_updL tg 8 (tg jj)) se gr ba tn sn un ow fi sz so wr dn ur dl (nI jj) (bu jj)) A) (cc := cX3_choose) (maxL := 2) (ret := none) (by decide) rfl (Nat.le_of_ble_eq_true rfl) ?_
  intro p e s m below meth c A ls hc hA hK hP hD hS hl
  obtain ⟨hx, hb, hml, hr, hts, hown, hlocks, hin⟩ := (show _ from hc)
  have hl : lv_has ls 2 [(0, .ref (q 0))] := hl
  subst hsl
  refine lv_iconst (v := nI 0) hx hb dX3_choose_0 (by decide) ?_
  refine lv_istore_n (lv' := [(1, .int (nI 0)), (0, .ref (q 0))]) hx hb dX3_choose_1 rfl hl (by decide) rfl (fun ls hl => ?_)
  have loop2 : ∀ (n : Nat) (i : Nat) (bt : Option Nat), (i ≤ 8) → (∀ j, bt = some j → j < 8) → (bt = nit (wcI dn ow tn) tg i) → 8 - i < n → ∀ (H : Heap) (locs : List Loc) (ls : Array Slot), va_P D vwCl (MoW q k tr ck hd po th we bu tg se gr ba tn sn un ow fi sz so wr dn ur dl (oI bt) le) H → va_D A (MoW q k tr ck hd po th we bu tg se gr ba tn sn un ow fi sz so wr dn ur dl (oI bt) le) → va_S A s.heap H locs → lv_has ls 2 [(0, .ref (q 0)), (1, .int (nI i))] → W p l e ({ frames := 1, cells := 0, slots := 0, locals := 23 } : Room) s m [.ref (q 0)].toArray below meth c H locs 0 0 (MQ below (QV D k (fun w9 => w9 = MoW q k tr ck hd po th we bu (vp_updL tg 8 (tg jj)) se gr ba tn sn un ow fi sz so wr dn ur dl (nI jj) (bu jj)) A) [.ref (q 0)].toArray s 0 0 A) (F0 m 2 ls []) := by
    intro n
    induction n with
    | zero => intro i bt hi hj hbt hn9; exact absurd hn9 (Nat.not_lt_zero _)
    | succ n ih =>
      intro i bt hi hj hbt hn9 H locs ls hP hD hS hl
      refine lv_iload_n hx hb dX3_choose_2 rfl (lv_at hl 1 rfl) ?_
      refine lv_bipush (v := nI 8) hx hb dX3_choose_3 (by decide) ?_
      refine lv_icmp_ge (tgt := 54) hx hb dX3_choose_5 (by decide) (fun c1 => ?_) (fun c1 => ?_)
      · have hi8 : i = 8 := lp_ge (by decide) hi c1
        rw [hi8, hjj] at hbt
        subst hbt
        have hP : va_P D vwCl (MoW q k tr ck hd po th we bu tg se gr ba tn sn un ow fi sz so wr dn ur dl (nI jj) le) H := hP
        have hD : va_D A (MoW q k tr ck hd po th we bu tg se gr ba tn sn un ow fi sz so wr dn ur dl (nI jj) le) := hD
        refine lv_aload_n hx hb dX3_choose_54 rfl (lv_at hl 0 rfl) ?_
        refine lv_aload_n hx hb dX3_choose_55 rfl (lv_at hl 0 rfl) ?_
        refine va_get (D := D) (ci := 3) (v := .ref (q 3)) (C := RX3) (T := TX3) (N := 24) hx hb hts iwX3_choose_X3 hown hK hP 0 rfl rfl 6 (by decide) (hts (Cond.fieldLink RX3 17 "ShareDiskModel" "budgets" "[I") mwX3_choose_0) (fun _ h9 => h9) rfl dX3_choose_56 ?_
        refine lv_aload_n hx hb dX3_choose_59 rfl (lv_at hl 0 rfl) ?_
        refine va_get (D := D) (ci := 3) (v := .int (nI jj)) (C := RX3) (T := TX3) (N := 24) hx hb hts iwX3_choose_X3 hown hK hP 0 rfl rfl 22 (by decide) (hts (Cond.fieldLink RX3 57 "ShareDiskModel" "slice" "I") mwX3_choose_1) (fun _ h9 => h9) rfl dX3_choose_60 ?_
        refine aI hx hb hK hP 3 1 rfl rfl (ix8 (by have := nit_lt _ _ hjj; omega)) dX3_choose_63 ?_
        refine va_put (D := D) (ci := 3) (v := .int (bu jj)) (ty := .int) (C := RX3) (T := TX3) (N := 24) hx hb hts iwX3_choose_X3 tyX3 tyX3_ok nmX3 hown hK hP hD hS 0 rfl rfl 23 (by decide) (hts (Cond.fieldLink RX3 92 "ShareDiskModel" "left" "I") mwX3_choose_2) (fun _ h9 => h9) rfl (by decide +kernel) rfl rfl (Nat.le_of_ble_eq_true rfl) dX3_choose_64 (fun H locs hP hD hS => ?_)
        have hP : va_P D vwCl (MoW q k tr ck hd po th we bu tg se gr ba tn sn un ow fi sz so wr dn ur dl (nI jj) (bu jj)) H := hP
        have hD : va_D A (MoW q k tr ck hd po th we bu tg se gr ba tn sn un ow fi sz so wr dn ur dl (nI jj) (bu jj)) := hD
        refine lv_aload_n hx hb dX3_choose_67 rfl (lv_at hl 0 rfl) ?_
        refine va_get (D := D) (ci := 3) (v := .ref (q 4)) (C := RX3) (T := TX3) (N := 24) hx hb hts iwX3_choose_X3 hown hK hP 0 rfl rfl 7 (by decide) (hts (Cond.fieldLink RX3 20 "ShareDiskModel" "tags" "[J") mwX3_choose_3) (fun _ h9 => h9) rfl dX3_choose_68 ?_
        refine lv_bipush (v := nI 8) hx hb dX3_choose_71 (by decide) ?_
        refine lv_aload_n hx hb dX3_choose_73 rfl (lv_at hl 0 rfl) ?_
        refine va_get (D := D) (ci := 3) (v := .ref (q 4)) (C := RX3) (T := TX3) (N := 24) hx hb hts iwX3_choose_X3 hown hK hP 0 rfl rfl 7 (by decide) (hts (Cond.fieldLink RX3 20 "ShareDiskModel" "tags" "[J") mwX3_choose_3) (fun _ h9 => h9) rfl dX3_choose_74 ?_
        refine lv_aload_n hx hb dX3_choose_77 rfl (lv_at hl 0 rfl) ?_
        refine va_get (D := D) (ci := 3) (v := .int (nI jj)) (C := RX3) (T := TX3) (N := 24) hx hb hts iwX3_choose_X3 hown hK hP 0 rfl rfl 22 (by decide) (hts (Cond.fieldLink RX3 57 "ShareDiskModel" "slice" "I") mwX3_choose_1) (fun _ h9 => h9) rfl dX3_choose_78 ?_
        refine aJ hx hb hK hP 4 2 rfl rfl (ix9 (by have := nit_lt _ _ hjj; omega)) dX3_choose_81 ?_
        refine sJ hx hb hK hP hD hS 4 2 rfl rfl (ix9 (by decide)) dX3_choose_82 (fun H locs hP hD hS => ?_)
        have hP : va_P D vwCl (MoW q k tr ck hd po th we bu (vp_updL tg 8 (tg jj)) se gr ba tn sn un ow fi sz so wr dn ur dl (nI jj) (bu jj)) H := hP
        have hD : va_D A (MoW q k tr ck hd po th we bu (vp_updL tg 8 (tg jj)) se gr ba tn sn un ow fi sz so wr dn ur dl (nI jj) (bu jj)) := hD
        exact retV hc dX3_choose_83 hK hP hD hS (rfl) (Nat.le_of_ble_eq_true rfl) (Nat.le_of_ble_eq_true rfl)
      · have hi8 : i < 8 := lp_lt (by decide) hi c1
        refine lv_aload_n hx hb dX3_choose_8 rfl (lv_at hl 0 rfl) ?_
        refine lv_iload_n hx hb dX3_choose_9 rfl (lv_at hl 1 rfl) ?_
        refine goVI0 hc (kX3_waiting l D k q H.size tr ck hd po th we bu tg se gr ba tn sn un ow fi sz so wr dn ur dl (oI bt) le (nI i) (htn)) (cwV 1 hts gX3_choose_X3_waiting rfl rfl rfl (by decide +kernel) ⟨(Nat.le_of_ble_eq_true rfl), (Nat.le_of_ble_eq_true rfl)⟩) hP hD hK hS hA (ci := 3) (q0 := 0) rfl rfl rfl hl.1 rfl (Nat.le_of_ble_eq_true rfl) dX3_choose_10 (Nat.le_of_ble_eq_true rfl) (Nat.le_of_ble_eq_true rfl) (fun r9 B9 H locs hq hP hD hS => ?_)
        obtain ⟨hr9, rfl⟩ := hq
        subst hr9
        have hP : va_P D vwCl (MoW q k tr ck hd po th we bu tg se gr ba tn sn un ow fi sz so wr dn ur dl (oI bt) le) H := hP
        have hD : va_D A (MoW q k tr ck hd po th we bu tg se gr ba tn sn un ow fi sz so wr dn ur dl (oI bt) le) := hD
        refine lv_if_le (tgt := 48) hx hb dX3_choose_13 (by decide) (fun c2 => ?_) (fun c2 => ?_)
        · refine lv_iinc (v := nI (i + 1)) (lv' := [(1, .int (nI (i + 1))), (0, .ref (q 0))]) hx hb dX3_choose_48 hl (k := 1) rfl (by rw [show Int32.ofInt 1 = nI 1 by decide, nI_add]) (by decide) rfl (fun ls hl => ?_)
          refine lv_goto (tgt := 2) hx hb dX3_choose_51 (by decide) ?_
          exact ih (i + 1) bt (by omega) hj (by rw [hbt]; simp only [nit]; rw [if_pos c2]) (by omega) _ _ _ hP hD hS (lv_sub hl [1, 0] rfl)
        · rcases bt with _ | j
          · have hl : lv_has ls 2 [(0, .ref (q 0)), (1, .int (nI i))] := hl
            have hP : va_P D vwCl (MoW q k tr ck hd po th we bu tg se gr ba tn sn un ow fi sz so wr dn ur dl (-1) le) H := hP
            have hD : va_D A (MoW q k tr ck hd po th we bu tg se gr ba tn sn un ow fi sz so wr dn ur dl (-1) le) := hD
            refine lv_aload_n hx hb dX3_choose_16 rfl (lv_at hl 0 rfl) ?_
            refine va_get (D := D) (ci := 3) (v := .int (-1)) (C := RX3) (T := TX3) (N := 24) hx hb hts iwX3_choose_X3 hown hK hP 0 rfl rfl 22 (by decide) (hts (Cond.fieldLink RX3 57 "ShareDiskModel" "slice" "I") mwX3_choose_1) (fun _ h9 => h9) rfl dX3_choose_17 ?_
            refine lv_iconst (v := (-1)) hx hb dX3_choose_20 (by decide) ?_
            refine lv_icmp_eq (tgt := 43) hx hb dX3_choose_21 (by decide) (fun c3 => ?_) (fun c3 => False.elim (c3 rfl))
            refine lv_aload_n hx hb dX3_choose_43 rfl (lv_at hl 0 rfl) ?_
            refine lv_iload_n hx hb dX3_choose_44 rfl (lv_at hl 1 rfl) ?_
            refine va_put (D := D) (ci := 3) (v := .int (nI i)) (ty := .int) (C := RX3) (T := TX3) (N := 24) hx hb hts iwX3_choose_X3 tyX3 tyX3_ok nmX3 hown hK hP hD hS 0 rfl rfl 22 (by decide) (hts (Cond.fieldLink RX3 57 "ShareDiskModel" "slice" "I") mwX3_choose_1) (fun _ h9 => h9) rfl (by decide +kernel) rfl rfl (Nat.le_of_ble_eq_true rfl) dX3_choose_45 (fun H locs hP hD hS => ?_)
            have hP : va_P D vwCl (MoW q k tr ck hd po th we bu tg se gr ba tn sn un ow fi sz so wr dn ur dl (nI i) le) H := hP
            have hD : va_D A (MoW q k tr ck hd po th we bu tg se gr ba tn sn un ow fi sz so wr dn ur dl (nI i) le) := hD
            refine lv_iinc (v := nI (i + 1)) (lv' := [(1, .int (nI (i + 1))), (0, .ref (q 0))]) hx hb dX3_choose_48 hl (k := 1) rfl (by rw [show Int32.ofInt 1 = nI 1 by decide, nI_add]) (by decide) rfl (fun ls hl => ?_)
            refine lv_goto (tgt := 2) hx hb dX3_choose_51 (by decide) ?_
            exact ih (i + 1) (some i) (by omega) (fun j h => by cases h; omega) (by simp only [nit, ← hbt]; rw [if_neg c2]) (by omega) _ _ _ hP hD hS (lv_sub hl [1, 0] rfl)
          · have hl : lv_has ls 2 [(0, .ref (q 0)), (1, .int (nI i))] := hl
            have hP : va_P D vwCl (MoW q k tr ck hd po th we bu tg se gr ba tn sn un ow fi sz so wr dn ur dl (nI j) le) H := hP
            have hD : va_D A (MoW q k tr ck hd po th we bu tg se gr ba tn sn un ow fi sz so wr dn ur dl (nI j) le) := hD
            refine lv_aload_n hx hb dX3_choose_16 rfl (lv_at hl 0 rfl) ?_
            refine va_get (D := D) (ci := 3) (v := .int (nI j)) (C := RX3) (T := TX3) (N := 24) hx hb hts iwX3_choose_X3 hown hK hP 0 rfl rfl 22 (by decide) (hts (Cond.fieldLink RX3 57 "ShareDiskModel" "slice" "I") mwX3_choose_1) (fun _ h9 => h9) rfl dX3_choose_17 ?_
            refine lv_iconst (v := (-1)) hx hb dX3_choose_20 (by decide) ?_
            refine lv_icmp_eq (tgt := 43) hx hb dX3_choose_21 (by decide) (fun c4 => False.elim (nI_nm1 _ (hj j rfl) c4)) (fun c4 => ?_)
            refine lv_aload_n hx hb dX3_choose_24 rfl (lv_at hl 0 rfl) ?_
            refine va_get (D := D) (ci := 3) (v := .ref (q 4)) (C := RX3) (T := TX3) (N := 24) hx hb hts iwX3_choose_X3 hown hK hP 0 rfl rfl 7 (by decide) (hts (Cond.fieldLink RX3 20 "ShareDiskModel" "tags" "[J") mwX3_choose_3) (fun _ h9 => h9) rfl dX3_choose_25 ?_
            refine lv_iload_n hx hb dX3_choose_28 rfl (lv_at hl 1 rfl) ?_
            refine aJ hx hb hK hP 4 2 rfl rfl (ix9 (by omega)) dX3_choose_29 ?_
            refine lv_aload_n hx hb dX3_choose_30 rfl (lv_at hl 0 rfl) ?_
            refine va_get (D := D) (ci := 3) (v := .ref (q 4)) (C := RX3) (T := TX3) (N := 24) hx hb hts iwX3_choose_X3 hown hK hP 0 rfl rfl 7 (by decide) (hts (Cond.fieldLink RX3 20 "ShareDiskModel" "tags" "[J") mwX3_choose_3) (fun _ h9 => h9) rfl dX3_choose_31 ?_
            refine lv_aload_n hx hb dX3_choose_34 rfl (lv_at hl 0 rfl) ?_
            refine va_get (D := D) (ci := 3) (v := .int (nI j)) (C := RX3) (T := TX3) (N := 24) hx hb hts iwX3_choose_X3 hown hK hP 0 rfl rfl 22 (by decide) (hts (Cond.fieldLink RX3 57 "ShareDiskModel" "slice" "I") mwX3_choose_1) (fun _ h9 => h9) rfl dX3_choose_35 ?_
            refine aJ hx hb hK hP 4 2 rfl rfl (ix9 (by have := hj j rfl; omega)) dX3_choose_38 ?_
            refine W.lcmp hx hb dX3_choose_39 ?_
            refine lv_if_ge (tgt := 48) hx hb dX3_choose_40 (by decide) (fun c5 => ?_) (fun c5 => ?_)
            · rw [lg_cmp_ge] at c5
              refine lv_iinc (v := nI (i + 1)) (lv' := [(1, .int (nI (i + 1))), (0, .ref (q 0))]) hx hb dX3_choose_48 hl (k := 1) rfl (by rw [show Int32.ofInt 1 = nI 1 by decide, nI_add]) (by decide) rfl (fun ls hl => ?_)
              refine lv_goto (tgt := 2) hx hb dX3_choose_51 (by decide) ?_
              exact ih (i + 1) (some j) (by omega) hj (by simp only [nit, ← hbt]; rw [if_neg c2, if_pos c5]) (by omega) _ _ _ hP hD hS (lv_sub hl [1, 0] rfl)
            · rw [lg_cmp_ge] at c5
              refine lv_aload_n hx hb dX3_choose_43 rfl (lv_at hl 0 rfl) ?_
              refine lv_iload_n hx hb dX3_choose_44 rfl (lv_at hl 1 rfl) ?_
              refine va_put (D := D) (ci := 3) (v := .int (nI i)) (ty := .int) (C := RX3) (T := TX3) (N := 24) hx hb hts iwX3_choose_X3 tyX3 tyX3_ok nmX3 hown hK hP hD hS 0 rfl rfl 22 (by decide) (hts (Cond.fieldLink RX3 57 "ShareDiskModel" "slice" "I") mwX3_choose_1) (fun _ h9 => h9) rfl (by decide +kernel) rfl rfl (Nat.le_of_ble_eq_true rfl) dX3_choose_45 (fun H locs hP hD hS => ?_)
              have hP : va_P D vwCl (MoW q k tr ck hd po th we bu tg se gr ba tn sn un ow fi sz so wr dn ur dl (nI i) le) H := hP
              have hD : va_D A (MoW q k tr ck hd po th we bu tg se gr ba tn sn un ow fi sz so wr dn ur dl (nI i) le) := hD
              refine lv_iinc (v := nI (i + 1)) (lv' := [(1, .int (nI (i + 1))), (0, .ref (q 0))]) hx hb dX3_choose_48 hl (k := 1) rfl (by rw [show Int32.ofInt 1 = nI 1 by decide, nI_add]) (by decide) rfl (fun ls hl => ?_)
              refine lv_goto (tgt := 2) hx hb dX3_choose_51 (by decide) ?_
              exact ih (i + 1) (some i) (by omega) (fun j h => by cases h; omega) (by simp only [nit, ← hbt]; rw [if_neg c2, if_neg c5]) (by omega) _ _ _ hP hD hS (lv_sub hl [1, 0] rfl)
  exact loop2 _ 0 none (by omega) (fun j h => by cases h) rfl (Nat.lt_succ_self _) s.heap _ _ hP hD hS (lv_sub hl [1, 0] rfl)
