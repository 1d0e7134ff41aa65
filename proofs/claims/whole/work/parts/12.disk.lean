set_option maxHeartbeats 4000000 in
set_option maxRecDepth 100000 in
theorem kX2_isWithin (l : Launch) (D : va_G) (k : Nat → ClassId) (zz : Nat) (x : Int32) (a : Int32) (b : Int32) : MI l yX2_isWithin wsX2_isWithin ({ frames := 0, cells := 0, slots := 0, locals := 0 } : Room) D k ([]) zz [.int x, .int a, .int b] (fun r9 w9 => r9 = (bI (inw x a b)) ∧ w9 = []) 0 0 := by
  refine bodyOf (Qc := fun A => QI D k (fun r9 w9 => r9 = (bI (inw x a b)) ∧ w9 = []) A) (cc := cX2_isWithin) (maxL := 3) (ret := (some .boolean)) (by decide) rfl (Nat.le_of_ble_eq_true rfl) ?_
  intro p e s m below meth c A ls hc hA hK hP hD hS hl
  obtain ⟨hx, hb, hml, hr, hts, hown, hlocks, hin⟩ := (show _ from hc)
  have hl : lv_has ls 3 [(0, .int x), (1, .int a), (2, .int b)] := hl
  refine lv_iload_n hx hb dX2_isWithin_0 rfl (lv_at hl 0 rfl) ?_
  refine lv_iload_n hx hb dX2_isWithin_1 rfl (lv_at hl 1 rfl) ?_
  refine lv_icmp_lt (tgt := 14) hx hb dX2_isWithin_2 (by decide) (fun c1 => ?_) (fun c1 => ?_)
  · refine lv_iconst (v := nI 0) hx hb dX2_isWithin_14 (by decide) ?_
    exact retZ hc dX2_isWithin_15 hK hP hD hS (Or.inl rfl) (⟨bI_f (by simp [c1]), rfl⟩) (Nat.le_of_ble_eq_true rfl) (Nat.le_of_ble_eq_true rfl)
  · refine lv_iload_n hx hb dX2_isWithin_5 rfl (lv_at hl 0 rfl) ?_
    refine lv_iload_n hx hb dX2_isWithin_6 rfl (lv_at hl 2 rfl) ?_
    refine lv_icmp_gt (tgt := 14) hx hb dX2_isWithin_7 (by decide) (fun c2 => ?_) (fun c2 => ?_)
    · refine lv_iconst (v := nI 0) hx hb dX2_isWithin_14 (by decide) ?_
      exact retZ hc dX2_isWithin_15 hK hP hD hS (Or.inl rfl) (⟨bI_f (by simp [c2]), rfl⟩) (Nat.le_of_ble_eq_true rfl) (Nat.le_of_ble_eq_true rfl)
    · refine lv_iconst (v := nI 1) hx hb dX2_isWithin_10 (by decide) ?_
      refine lv_goto (tgt := 15) hx hb dX2_isWithin_11 (by decide) ?_
      exact retZ hc dX2_isWithin_15 hK hP hD hS (Or.inr rfl) (⟨bI_t ⟨c1, c2⟩, rfl⟩) (Nat.le_of_ble_eq_true rfl) (Nat.le_of_ble_eq_true rfl)
theorem mwX2_areOnDisk_0 : Cond.constant RX2 151 (100000) ∈ wsX2_areOnDisk := by decide +kernel
set_option maxHeartbeats 4000000 in
set_option maxRecDepth 100000 in
theorem kX2_areOnDisk (l : Launch) (D : va_G) (k : Nat → ClassId) (zz : Nat) (x : Int32) (y : Int32) : MI l yX2_areOnDisk wsX2_areOnDisk ({ frames := 1, cells := 0, slots := 0, locals := 22 } : Room) D k ([]) zz [.int x, .int y] (fun r9 w9 => r9 = (bI (inw y (nI 1) (nI 64) ∧ inw x (nI 0) (nI 100000 - y))) ∧ w9 = []) 0 0 := by
  refine bodyOf (Qc := fun A => QI D k (fun r9 w9 => r9 = (bI (inw y (nI 1) (nI 64) ∧ inw x (nI 0) (nI 100000 - y))) ∧ w9 = []) A) (cc := cX2_areOnDisk) (maxL := 2) (ret := (some .boolean)) (by decide) rfl (Nat.le_of_ble_eq_true rfl) ?_
  intro p e s m below meth c A ls hc hA hK hP hD hS hl
  obtain ⟨hx, hb, hml, hr, hts, hown, hlocks, hin⟩ := (show _ from hc)
  have hl : lv_has ls 2 [(0, .int x), (1, .int y)] := hl
  refine lv_iload_n hx hb dX2_areOnDisk_0 rfl (lv_at hl 1 rfl) ?_
  refine lv_iconst (v := nI 1) hx hb dX2_areOnDisk_1 (by decide) ?_
  refine lv_bipush (v := nI 64) hx hb dX2_areOnDisk_2 (by decide) ?_
  refine goSI hc (kX2_isWithin l D k s.heap.size y (nI 1) (nI 64)) (va_cwS 3 hts gX2_areOnDisk_X2_isWithin rfl rfl rfl (by decide +kernel) ⟨(Nat.le_of_ble_eq_true rfl), (Nat.le_of_ble_eq_true rfl)⟩) hP hD hK hS hA rfl hl.1 rfl (Nat.le_of_ble_eq_true rfl) dX2_areOnDisk_4 (Nat.le_of_ble_eq_true rfl) (Nat.le_of_ble_eq_true rfl) (fun r9 B9 H locs hq hP hD hS => ?_)
  obtain ⟨hr9, -⟩ := hq
  subst hr9
  have hP : va_P D vwCl ([]) H := hP
  have hD : va_D A ([]) := hD
  refine lv_if_eq (tgt := 26) hx hb dX2_areOnDisk_7 (by decide) (fun c1 => ?_) (fun c1 => ?_)
  · refine lv_iconst (v := nI 0) hx hb dX2_areOnDisk_26 (by decide) ?_
    exact retZ hc dX2_areOnDisk_27 hK hP hD hS (Or.inl rfl) (⟨bI_f (fun h => bI_0 c1 h.1), rfl⟩) (Nat.le_of_ble_eq_true rfl) (Nat.le_of_ble_eq_true rfl)
  · refine lv_iload_n hx hb dX2_areOnDisk_10 rfl (lv_at hl 0 rfl) ?_
    refine lv_iconst (v := nI 0) hx hb dX2_areOnDisk_11 (by decide) ?_
    refine lv_ldc (v := nI 100000) hx hb hown (hts (.constant RX2 151 (100000)) mwX2_areOnDisk_0) dX2_areOnDisk_12 ?_
    refine lv_iload_n hx hb dX2_areOnDisk_14 rfl (lv_at hl 1 rfl) ?_
    refine lv_isub hx hb dX2_areOnDisk_15 ?_
    refine goSI hc (kX2_isWithin l D k H.size x (nI 0) ((nI 100000) - y)) (va_cwS 3 hts gX2_areOnDisk_X2_isWithin rfl rfl rfl (by decide +kernel) ⟨(Nat.le_of_ble_eq_true rfl), (Nat.le_of_ble_eq_true rfl)⟩) hP hD hK hS hA rfl hl.1 rfl (Nat.le_of_ble_eq_true rfl) dX2_areOnDisk_16 (Nat.le_of_ble_eq_true rfl) (Nat.le_of_ble_eq_true rfl) (fun r9 B9 H locs hq hP hD hS => ?_)
    obtain ⟨hr9, -⟩ := hq
    subst hr9
    have hP : va_P D vwCl ([]) H := hP
    have hD : va_D A ([]) := hD
    refine lv_if_eq (tgt := 26) hx hb dX2_areOnDisk_19 (by decide) (fun c2 => ?_) (fun c2 => ?_)
    · refine lv_iconst (v := nI 0) hx hb dX2_areOnDisk_26 (by decide) ?_
      exact retZ hc dX2_areOnDisk_27 hK hP hD hS (Or.inl rfl) (⟨bI_f (fun h => bI_0 c2 h.2), rfl⟩) (Nat.le_of_ble_eq_true rfl) (Nat.le_of_ble_eq_true rfl)
    · refine lv_iconst (v := nI 1) hx hb dX2_areOnDisk_22 (by decide) ?_
      refine lv_goto (tgt := 27) hx hb dX2_areOnDisk_23 (by decide) ?_
      exact retZ hc dX2_areOnDisk_27 hK hP hD hS (Or.inr rfl) (⟨bI_t ⟨bI_1 c1, bI_1 c2⟩, rfl⟩) (Nat.le_of_ble_eq_true rfl) (Nat.le_of_ble_eq_true rfl)
theorem mwX2_requireThere_0 : Cond.classLink RX2 31 "java/lang/IllegalArgumentException" ∈ wsX2_requireThere := by decide +kernel
theorem mwX2_requireThere_1 : Cond.initialized "java/lang/IllegalArgumentException" ∈ wsX2_requireThere := by decide +kernel
theorem mwX2_requireThere_2 : Cond.fieldLink RX2 10 "ShareDisk" "clients" "LShareDisk$Clients;" ∈ wsX2_requireThere := by decide +kernel
theorem iwX2_requireThere_X2 : ∀ w ∈ wsX20, w ∈ wsX2_requireThere := by decide +kernel
theorem xaX2_requireThere_33 : ∀ w ∈ (vx_at0 RX2 33 "java/lang/IllegalArgumentException" ["java/lang/RuntimeException", "java/lang/Exception"]).filter goodWord, w ∈ wsX2_requireThere := by decide +kernel
theorem xbX2_requireThere_33 : ∀ w ∈ (vx_at0 RX2 33 "java/lang/IllegalArgumentException" ["java/lang/RuntimeException", "java/lang/Exception"]).filter (fun w => !goodWord w), w ∈ NGl := by decide +kernel
theorem xcX2_requireThere_33 : ∀ w ∈ Cond.classLink RX2 31 "java/lang/IllegalArgumentException" :: Cond.initialized "java/lang/IllegalArgumentException" :: vx_at0 RX2 33 "java/lang/IllegalArgumentException" ["java/lang/RuntimeException", "java/lang/Exception"], vx_ot w = true := by decide +kernel
set_option maxHeartbeats 4000000 in
set_option maxRecDepth 100000 in
theorem kX2_requireThere (l : Launch) (D : va_G) (k : Nat → ClassId) (d : Nat) (cq : Nat → Nat) (rq : Nat → Nat) (zz : Nat) (ck : Int64) (hd : Int32) (po st : Int64) (sl le : Int32) (th co bu : Nat → Int32) (tg : Nat → Int64) (wa se : Nat → Int32) (ld : Nat → Nat → Int64) (ow wr fi sz : Nat → Int32) (dl : Nat → Int64) (wt bl sh so : Nat → Int32) (tn sn un : Nat) (x : Int32) (hth : ∀ i, th i = 0 ∨ th i = 1) (hl0 : l.stackTraces = false) : XV l yX2_requireThere wsX2_requireThere ({ frames := 6, cells := 1, slots := 6, locals := 89 } : Room) D k (DkW d (cq 0) (rq 0) ck hd po st sl le ++ (ClW cq k th co bu tg wa se ld ++ (RqW rq k ow wr fi sz dl wt bl sh so tn sn un))) zz [.ref d, .int x] (fun w9 => w9 = DkW d (cq 0) (rq 0) ck hd po st sl le ++ (ClW cq k th co bu tg wa se ld ++ (RqW rq k ow wr fi sz dl wt bl sh so tn sn un)) ∧ (isT th x)) (fun E w9 => E = IAE ∧ w9 = DkW d (cq 0) (rq 0) ck hd po st sl le ++ (ClW cq k th co bu tg wa se ld ++ (RqW rq k ow wr fi sz dl wt bl sh so tn sn un)) ∧ ¬ isT th x) 1 6 := by
  refine bodyOfX (Qc := fun A => QV D k (fun w9 => w9 = DkW d (cq 0) (rq 0) ck hd po st sl le ++ (ClW cq k th co bu tg wa se ld ++ (RqW rq k ow wr fi sz dl wt bl sh so tn sn un)) ∧ (isT th x)) A) (XC := fun A => QX D k (fun E w9 => E = IAE ∧ w9 = DkW d (cq 0) (rq 0) ck hd po st sl le ++ (ClW cq k th co bu tg wa se ld ++ (RqW rq k ow wr fi sz dl wt bl sh so tn sn un)) ∧ ¬ isT th x) A) (cc := cX2_requireThere) (maxL := 2) (ret := none) (by decide) rfl (Nat.le_of_ble_eq_true rfl) ?_
  intro p e s m below meth c A ls hc htab hZ hA hK hP hD hS hl
  obtain ⟨hx, hb, hml, hr, hts, hown, hlocks, hin⟩ := (show _ from hc)
  have hl : lv_has ls 2 [(0, .ref d), (1, .int x)] := hl
  refine lv_iload_n hx hb dX2_requireThere_0 rfl (lv_at hl 1 rfl) ?_
  refine lv_iconst (v := nI 0) hx hb dX2_requireThere_1 (by decide) ?_
  refine lv_bipush (v := nI 7) hx hb dX2_requireThere_2 (by decide) ?_
  refine goSI hc (kX2_isWithin l D k s.heap.size x (nI 0) (nI 7)) (va_cwS 3 hts gX2_requireThere_X2_isWithin rfl rfl rfl (by decide +kernel) ⟨(Nat.le_of_ble_eq_true rfl), (Nat.le_of_ble_eq_true rfl)⟩) hP hD hK hS hA rfl hl.1 rfl (Nat.le_of_ble_eq_true rfl) dX2_requireThere_4 (Nat.le_of_ble_eq_true rfl) (Nat.le_of_ble_eq_true rfl) (fun r9 B9 H locs hq hP hD hS => ?_)
  obtain ⟨hr9, -⟩ := hq
  subst hr9
  have hP : va_P D vwCl (DkW d (cq 0) (rq 0) ck hd po st sl le ++ (ClW cq k th co bu tg wa se ld ++ (RqW rq k ow wr fi sz dl wt bl sh so tn sn un))) H := hP
  have hD : va_D A (DkW d (cq 0) (rq 0) ck hd po st sl le ++ (ClW cq k th co bu tg wa se ld ++ (RqW rq k ow wr fi sz dl wt bl sh so tn sn un))) := hD
  refine lv_if_eq (tgt := 21) hx hb dX2_requireThere_7 (by decide) (fun c1 => ?_) (fun c1 => ?_)
  · exact thr (E := "java/lang/IllegalArgumentException") (names := ["java/lang/RuntimeException", "java/lang/Exception"]) hc htab hl0 hZ hK hP hD hS (by decide +kernel) (by decide +kernel) mwX2_requireThere_0 mwX2_requireThere_1 xaX2_requireThere_33 xbX2_requireThere_33 xcX2_requireThere_33 hl.1 dX2_requireThere_21 dX2_requireThere_24 dX2_requireThere_25 dX2_requireThere_28 (Nat.le_of_ble_eq_true rfl) (Nat.le_of_ble_eq_true rfl) (Nat.le_of_ble_eq_true rfl) (Nat.le_of_ble_eq_true rfl) (⟨rfl, rfl, fun h => by obtain ⟨j, hj, rfl, -⟩ := h; exact bI_0 c1 ⟨nI_pos (by omega), nI_nlt (by omega) (by decide)⟩⟩) (Nat.le_of_ble_eq_true rfl) (Nat.le_of_ble_eq_true rfl)
  · obtain ⟨j, hj, rfl⟩ := ofW (bI_1 c1) (by decide)
    refine lv_aload_n hx hb dX2_requireThere_10 rfl (lv_at hl 0 rfl) ?_
    refine va_get (D := D) (ci := 2) (v := .ref (cq 0)) (C := RX2) (T := TX2) (N := 8) hx hb hts iwX2_requireThere_X2 hown hK hP 0 rfl rfl 0 (by decide) (hts (Cond.fieldLink RX2 10 "ShareDisk" "clients" "LShareDisk$Clients;") mwX2_requireThere_2) (fun _ h9 => h9) rfl dX2_requireThere_11 ?_
    refine lv_iload_n hx hb dX2_requireThere_14 rfl (lv_at hl 1 rfl) ?_
    refine goVI hc (kX0_isThere l D k cq H.size th co bu tg wa se ld j (by omega) (hth)) (cwV 1 hts gX2_requireThere_X0_isThere rfl rfl rfl (by decide +kernel) ⟨(Nat.le_of_ble_eq_true rfl), (Nat.le_of_ble_eq_true rfl)⟩) hP hD hK hS hA (ci := 0) (q0 := 0) rfl rfl rfl hl.1 rfl (Nat.le_of_ble_eq_true rfl) dX2_requireThere_15 (Nat.le_of_ble_eq_true rfl) (Nat.le_of_ble_eq_true rfl) (fun r9 B9 H locs hq hP hD hS => ?_)
    obtain ⟨hr9, rfl⟩ := hq
    subst hr9
    have hP : va_P D vwCl (DkW d (cq 0) (rq 0) ck hd po st sl le ++ (ClW cq k th co bu tg wa se ld ++ (RqW rq k ow wr fi sz dl wt bl sh so tn sn un))) H := hP
    have hD : va_D A (DkW d (cq 0) (rq 0) ck hd po st sl le ++ (ClW cq k th co bu tg wa se ld ++ (RqW rq k ow wr fi sz dl wt bl sh so tn sn un))) := hD
    refine lv_if_ne (tgt := 29) hx hb dX2_requireThere_18 (by decide) (fun c2 => ?_) (fun c2 => ?_)
    · exact retVX hc dX2_requireThere_29 hK hP hD hS (⟨rfl, j, by omega, rfl, c2⟩) (Nat.le_of_ble_eq_true rfl) (Nat.le_of_ble_eq_true rfl)
    · exact thr (E := "java/lang/IllegalArgumentException") (names := ["java/lang/RuntimeException", "java/lang/Exception"]) hc htab hl0 hZ hK hP hD hS (by decide +kernel) (by decide +kernel) mwX2_requireThere_0 mwX2_requireThere_1 xaX2_requireThere_33 xbX2_requireThere_33 xcX2_requireThere_33 hl.1 dX2_requireThere_21 dX2_requireThere_24 dX2_requireThere_25 dX2_requireThere_28 (Nat.le_of_ble_eq_true rfl) (Nat.le_of_ble_eq_true rfl) (Nat.le_of_ble_eq_true rfl) (Nat.le_of_ble_eq_true rfl) (⟨rfl, rfl, fun h => by obtain ⟨i, hi, he, ht⟩ := h; rw [(nI_eq (by omega) (by omega)).mp he] at c2; exact ht c2⟩) (Nat.le_of_ble_eq_true rfl) (Nat.le_of_ble_eq_true rfl)
theorem mwX2_endSlice_0 : Cond.fieldLink RX2 23 "ShareDisk" "sliceOwner" "I" ∈ wsX2_endSlice := by decide +kernel
theorem mwX2_endSlice_1 : Cond.fieldLink RX2 146 "ShareDisk" "sliceLeft" "I" ∈ wsX2_endSlice := by decide +kernel
theorem iwX2_endSlice_X2 : ∀ w ∈ wsX20, w ∈ wsX2_endSlice := by decide +kernel
set_option maxHeartbeats 4000000 in
set_option maxRecDepth 100000 in
theorem kX2_endSlice (l : Launch) (D : va_G) (k : Nat → ClassId) (d : Nat) (cq : Nat → Nat) (rq : Nat → Nat) (zz : Nat) (ck : Int64) (hd : Int32) (po st : Int64) (sl le : Int32) (th co bu : Nat → Int32) (tg : Nat → Int64) (wa se : Nat → Int32) (ld : Nat → Nat → Int64) (ow wr fi sz : Nat → Int32) (dl : Nat → Int64) (wt bl sh so : Nat → Int32) (tn sn un : Nat) : MV l yX2_endSlice wsX2_endSlice ({ frames := 0, cells := 0, slots := 0, locals := 0 } : Room) D k (DkW d (cq 0) (rq 0) ck hd po st sl le ++ (ClW cq k th co bu tg wa se ld ++ (RqW rq k ow wr fi sz dl wt bl sh so tn sn un))) zz [.ref d] (fun w9 => w9 = DkW d (cq 0) (rq 0) ck hd po st (-1) (nI 0) ++ (ClW cq k th co bu tg wa se ld ++ (RqW rq k ow wr fi sz dl wt bl sh so tn sn un))) 0 0 := by
  refine bodyOf (Qc := fun A => QV D k (fun w9 => w9 = DkW d (cq 0) (rq 0) ck hd po st (-1) (nI 0) ++ (ClW cq k th co bu tg wa se ld ++ (RqW rq k ow wr fi sz dl wt bl sh so tn sn un))) A) (cc := cX2_endSlice) (maxL := 1) (ret := none) (by decide) rfl (Nat.le_of_ble_eq_true rfl) ?_
  intro p e s m below meth c A ls hc hA hK hP hD hS hl
  obtain ⟨hx, hb, hml, hr, hts, hown, hlocks, hin⟩ := (show _ from hc)
  have hl : lv_has ls 1 [(0, .ref d)] := hl
  refine lv_aload_n hx hb dX2_endSlice_0 rfl (lv_at hl 0 rfl) ?_
  refine lv_iconst (v := (-1)) hx hb dX2_endSlice_1 (by decide) ?_
  refine va_put (D := D) (ci := 2) (v := .int (-1)) (ty := .int) (C := RX2) (T := TX2) (N := 8) hx hb hts iwX2_endSlice_X2 tyX2 tyX2_ok nmX2 hown hK hP hD hS 0 rfl rfl 6 (by decide) (hts (Cond.fieldLink RX2 23 "ShareDisk" "sliceOwner" "I") mwX2_endSlice_0) (fun _ h9 => h9) rfl (by decide +kernel) rfl rfl (Nat.le_of_ble_eq_true rfl) dX2_endSlice_2 (fun H locs hP hD hS => ?_)
  have hP : va_P D vwCl (DkW d (cq 0) (rq 0) ck hd po st (-1) le ++ (ClW cq k th co bu tg wa se ld ++ (RqW rq k ow wr fi sz dl wt bl sh so tn sn un))) H := hP
  have hD : va_D A (DkW d (cq 0) (rq 0) ck hd po st (-1) le ++ (ClW cq k th co bu tg wa se ld ++ (RqW rq k ow wr fi sz dl wt bl sh so tn sn un))) := hD
  refine lv_aload_n hx hb dX2_endSlice_5 rfl (lv_at hl 0 rfl) ?_
  refine lv_iconst (v := nI 0) hx hb dX2_endSlice_6 (by decide) ?_
  refine va_put (D := D) (ci := 2) (v := .int (nI 0)) (ty := .int) (C := RX2) (T := TX2) (N := 8) hx hb hts iwX2_endSlice_X2 tyX2 tyX2_ok nmX2 hown hK hP hD hS 0 rfl rfl 7 (by decide) (hts (Cond.fieldLink RX2 146 "ShareDisk" "sliceLeft" "I") mwX2_endSlice_1) (fun _ h9 => h9) rfl (by decide +kernel) rfl rfl (Nat.le_of_ble_eq_true rfl) dX2_endSlice_7 (fun H locs hP hD hS => ?_)
  have hP : va_P D vwCl (DkW d (cq 0) (rq 0) ck hd po st (-1) (nI 0) ++ (ClW cq k th co bu tg wa se ld ++ (RqW rq k ow wr fi sz dl wt bl sh so tn sn un))) H := hP
  have hD : va_D A (DkW d (cq 0) (rq 0) ck hd po st (-1) (nI 0) ++ (ClW cq k th co bu tg wa se ld ++ (RqW rq k ow wr fi sz dl wt bl sh so tn sn un))) := hD
  exact retV hc dX2_endSlice_10 hK hP hD hS (rfl) (Nat.le_of_ble_eq_true rfl) (Nat.le_of_ble_eq_true rfl)
theorem mwX2_moveHead_0 : Cond.fieldLink RX2 97 "ShareDisk" "head" "I" ∈ wsX2_moveHead := by decide +kernel
theorem mwX2_moveHead_1 : Cond.methodLink RX2 183 Lib.Math.abs.name ∈ wsX2_moveHead := by decide +kernel
theorem mwX2_moveHead_2 : Cond.static Lib.Math.abs.name ∈ wsX2_moveHead := by decide +kernel
theorem mwX2_moveHead_3 : Cond.initialized "java/lang/Math" ∈ wsX2_moveHead := by decide +kernel
theorem mwX2_moveHead_4 : Cond.code Lib.Math.abs.name Lib.Math.abs.code 1 (some .int) ∈ wsX2_moveHead := by decide +kernel
theorem mwX2_moveHead_5 : Cond.fieldLink RX2 143 "ShareDisk" "passedOver" "J" ∈ wsX2_moveHead := by decide +kernel
theorem mwX2_moveHead_6 : Cond.fieldLink RX2 79 "ShareDisk" "clock" "J" ∈ wsX2_moveHead := by decide +kernel
theorem iwX2_moveHead_X2 : ∀ w ∈ wsX20, w ∈ wsX2_moveHead := by decide +kernel
set_option maxHeartbeats 4000000 in
set_option maxRecDepth 100000 in
theorem kX2_moveHead (l : Launch) (D : va_G) (k : Nat → ClassId) (d : Nat) (cq : Nat → Nat) (rq : Nat → Nat) (zz : Nat) (ck : Int64) (hd : Int32) (po st : Int64) (sl le : Int32) (th co bu : Nat → Int32) (tg : Nat → Int64) (wa se : Nat → Int32) (ld : Nat → Nat → Int64) (ow wr fi sz : Nat → Int32) (dl : Nat → Int64) (wt bl sh so : Nat → Int32) (tn sn un : Nat) (f : Int32) (z : Int32) : MV l yX2_moveHead wsX2_moveHead ({ frames := 1, cells := 0, slots := 0, locals := 21 } : Room) D k (DkW d (cq 0) (rq 0) ck hd po st sl le ++ (ClW cq k th co bu tg wa se ld ++ (RqW rq k ow wr fi sz dl wt bl sh so tn sn un))) zz [.ref d, .int f, .int z] (fun w9 => w9 = DkW d (cq 0) (rq 0) (ck + (abI (f - hd) / nI 100 + z).toInt64) (f + z) (po + (abI (f - hd)).toInt64) st sl le ++ (ClW cq k th co bu tg wa se ld ++ (RqW rq k ow wr fi sz dl wt bl sh so tn sn un))) 0 0 := by
  refine bodyOf (Qc := fun A => QV D k (fun w9 => w9 = DkW d (cq 0) (rq 0) (ck + (abI (f - hd) / nI 100 + z).toInt64) (f + z) (po + (abI (f - hd)).toInt64) st sl le ++ (ClW cq k th co bu tg wa se ld ++ (RqW rq k ow wr fi sz dl wt bl sh so tn sn un))) A) (cc := cX2_moveHead) (maxL := 4) (ret := none) (by decide) rfl (Nat.le_of_ble_eq_true rfl) ?_
  intro p e s m below meth c A ls hc hA hK hP hD hS hl
  obtain ⟨hx, hb, hml, hr, hts, hown, hlocks, hin⟩ := (show _ from hc)
  have hl : lv_has ls 4 [(0, .ref d), (1, .int f), (2, .int z)] := hl
  refine lv_iload_n hx hb dX2_moveHead_0 rfl (lv_at hl 1 rfl) ?_
  refine lv_aload_n hx hb dX2_moveHead_1 rfl (lv_at hl 0 rfl) ?_
  refine va_get (D := D) (ci := 2) (v := .int hd) (C := RX2) (T := TX2) (N := 8) hx hb hts iwX2_moveHead_X2 hown hK hP 0 rfl rfl 3 (by decide) (hts (Cond.fieldLink RX2 97 "ShareDisk" "head" "I") mwX2_moveHead_0) (fun _ h9 => h9) rfl dX2_moveHead_2 ?_
  refine lv_isub hx hb dX2_moveHead_5 ?_
  refine va_mabs hx hb (hml.trans hl.1.symm) hown (hts (Cond.methodLink RX2 183 Lib.Math.abs.name) mwX2_moveHead_1) (hts (Cond.static Lib.Math.abs.name) mwX2_moveHead_2) (hts (Cond.initialized "java/lang/Math") mwX2_moveHead_3) (hts (Cond.code Lib.Math.abs.name Lib.Math.abs.code 1 (some .int)) mwX2_moveHead_4) (Nat.le_of_ble_eq_true rfl) (Nat.le_of_ble_eq_true rfl) (Nat.le_of_ble_eq_true rfl) (Nat.le_of_ble_eq_true rfl) dX2_moveHead_6 ?_
  refine lv_istore_n (lv' := [(3, .int (abI (f - hd))), (0, .ref d), (1, .int f), (2, .int z)]) hx hb dX2_moveHead_9 rfl hl (by decide) rfl (fun ls hl => ?_)
  refine lv_aload_n hx hb dX2_moveHead_10 rfl (lv_at hl 1 rfl) ?_
  refine lv_dup hx hb dX2_moveHead_11 rfl ?_
  refine va_get (D := D) (ci := 2) (v := .long po) (C := RX2) (T := TX2) (N := 8) hx hb hts iwX2_moveHead_X2 hown hK hP 0 rfl rfl 4 (by decide) (hts (Cond.fieldLink RX2 143 "ShareDisk" "passedOver" "J") mwX2_moveHead_5) (fun _ h9 => h9) rfl dX2_moveHead_12 ?_
  refine lv_iload_n hx hb dX2_moveHead_15 rfl (lv_at hl 0 rfl) ?_
  refine lv_i2l (v := (abI (f - hd)).toInt64) hx hb dX2_moveHead_16 rfl ?_
  refine lv_ladd hx hb dX2_moveHead_17 ?_
  refine va_put (D := D) (ci := 2) (v := .long (po + ((abI (f - hd)).toInt64))) (ty := .long) (C := RX2) (T := TX2) (N := 8) hx hb hts iwX2_moveHead_X2 tyX2 tyX2_ok nmX2 hown hK hP hD hS 0 rfl rfl 4 (by decide) (hts (Cond.fieldLink RX2 143 "ShareDisk" "passedOver" "J") mwX2_moveHead_5) (fun _ h9 => h9) rfl (by decide +kernel) rfl rfl (Nat.le_of_ble_eq_true rfl) dX2_moveHead_18 (fun H locs hP hD hS => ?_)
  have hP : va_P D vwCl (DkW d (cq 0) (rq 0) ck hd (po + ((abI (f - hd)).toInt64)) st sl le ++ (ClW cq k th co bu tg wa se ld ++ (RqW rq k ow wr fi sz dl wt bl sh so tn sn un))) H := hP
  have hD : va_D A (DkW d (cq 0) (rq 0) ck hd (po + ((abI (f - hd)).toInt64)) st sl le ++ (ClW cq k th co bu tg wa se ld ++ (RqW rq k ow wr fi sz dl wt bl sh so tn sn un))) := hD
  refine lv_aload_n hx hb dX2_moveHead_21 rfl (lv_at hl 1 rfl) ?_
  refine lv_dup hx hb dX2_moveHead_22 rfl ?_
  refine va_get (D := D) (ci := 2) (v := .long ck) (C := RX2) (T := TX2) (N := 8) hx hb hts iwX2_moveHead_X2 hown hK hP 0 rfl rfl 2 (by decide) (hts (Cond.fieldLink RX2 79 "ShareDisk" "clock" "J") mwX2_moveHead_6) (fun _ h9 => h9) rfl dX2_moveHead_23 ?_
  refine lv_iload_n hx hb dX2_moveHead_26 rfl (lv_at hl 0 rfl) ?_
  refine lv_bipush (v := nI 100) hx hb dX2_moveHead_27 (by decide) ?_
  refine lv_idiv hx hb dX2_moveHead_29 (by decide) ?_
  refine lv_iload_n hx hb dX2_moveHead_30 rfl (lv_at hl 3 rfl) ?_
  refine lv_iadd hx hb dX2_moveHead_31 ?_
  refine lv_i2l (v := (((abI (f - hd)) / (nI 100)) + z).toInt64) hx hb dX2_moveHead_32 rfl ?_
  refine lv_ladd hx hb dX2_moveHead_33 ?_
  refine va_put (D := D) (ci := 2) (v := .long (ck + ((((abI (f - hd)) / (nI 100)) + z).toInt64))) (ty := .long) (C := RX2) (T := TX2) (N := 8) hx hb hts iwX2_moveHead_X2 tyX2 tyX2_ok nmX2 hown hK hP hD hS 0 rfl rfl 2 (by decide) (hts (Cond.fieldLink RX2 79 "ShareDisk" "clock" "J") mwX2_moveHead_6) (fun _ h9 => h9) rfl (by decide +kernel) rfl rfl (Nat.le_of_ble_eq_true rfl) dX2_moveHead_34 (fun H locs hP hD hS => ?_)
  have hP : va_P D vwCl (DkW d (cq 0) (rq 0) (ck + ((((abI (f - hd)) / (nI 100)) + z).toInt64)) hd (po + ((abI (f - hd)).toInt64)) st sl le ++ (ClW cq k th co bu tg wa se ld ++ (RqW rq k ow wr fi sz dl wt bl sh so tn sn un))) H := hP
  have hD : va_D A (DkW d (cq 0) (rq 0) (ck + ((((abI (f - hd)) / (nI 100)) + z).toInt64)) hd (po + ((abI (f - hd)).toInt64)) st sl le ++ (ClW cq k th co bu tg wa se ld ++ (RqW rq k ow wr fi sz dl wt bl sh so tn sn un))) := hD
  refine lv_aload_n hx hb dX2_moveHead_37 rfl (lv_at hl 1 rfl) ?_
  refine lv_iload_n hx hb dX2_moveHead_38 rfl (lv_at hl 2 rfl) ?_
  refine lv_iload_n hx hb dX2_moveHead_39 rfl (lv_at hl 3 rfl) ?_
  refine lv_iadd hx hb dX2_moveHead_40 ?_
  refine va_put (D := D) (ci := 2) (v := .int (f + z)) (ty := .int) (C := RX2) (T := TX2) (N := 8) hx hb hts iwX2_moveHead_X2 tyX2 tyX2_ok nmX2 hown hK hP hD hS 0 rfl rfl 3 (by decide) (hts (Cond.fieldLink RX2 97 "ShareDisk" "head" "I") mwX2_moveHead_0) (fun _ h9 => h9) rfl (by decide +kernel) rfl rfl (Nat.le_of_ble_eq_true rfl) dX2_moveHead_41 (fun H locs hP hD hS => ?_)
  have hP : va_P D vwCl (DkW d (cq 0) (rq 0) (ck + ((((abI (f - hd)) / (nI 100)) + z).toInt64)) (f + z) (po + ((abI (f - hd)).toInt64)) st sl le ++ (ClW cq k th co bu tg wa se ld ++ (RqW rq k ow wr fi sz dl wt bl sh so tn sn un))) H := hP
  have hD : va_D A (DkW d (cq 0) (rq 0) (ck + ((((abI (f - hd)) / (nI 100)) + z).toInt64)) (f + z) (po + ((abI (f - hd)).toInt64)) st sl le ++ (ClW cq k th co bu tg wa se ld ++ (RqW rq k ow wr fi sz dl wt bl sh so tn sn un))) := hD
  exact retV hc dX2_moveHead_44 hK hP hD hS (rfl) (Nat.le_of_ble_eq_true rfl) (Nat.le_of_ble_eq_true rfl)
theorem mwX2_takeFromSlice_0 : Cond.fieldLink RX2 146 "ShareDisk" "sliceLeft" "I" ∈ wsX2_takeFromSlice := by decide +kernel
theorem mwX2_takeFromSlice_1 : Cond.fieldLink RX2 10 "ShareDisk" "clients" "LShareDisk$Clients;" ∈ wsX2_takeFromSlice := by decide +kernel
theorem mwX2_takeFromSlice_2 : Cond.fieldLink RX2 23 "ShareDisk" "sliceOwner" "I" ∈ wsX2_takeFromSlice := by decide +kernel
theorem iwX2_takeFromSlice_X2 : ∀ w ∈ wsX20, w ∈ wsX2_takeFromSlice := by decide +kernel
set_option maxHeartbeats 4000000 in
set_option maxRecDepth 100000 in
theorem kX2_takeFromSlice (l : Launch) (D : va_G) (k : Nat → ClassId) (d : Nat) (cq : Nat → Nat) (rq : Nat → Nat) (zz : Nat) (ck : Int64) (hd : Int32) (po st : Int64) (sl le : Int32) (th co bu : Nat → Int32) (tg : Nat → Int64) (wa se : Nat → Int32) (ld : Nat → Nat → Int64) (ow wr fi sz : Nat → Int32) (dl : Nat → Int64) (wt bl sh so : Nat → Int32) (tn sn un : Nat) (z : Int32) (o : Nat) (ho : o < 8) (hsl : sl = nI o) : MV l yX2_takeFromSlice wsX2_takeFromSlice ({ frames := 1, cells := 0, slots := 0, locals := 21 } : Room) D k (DkW d (cq 0) (rq 0) ck hd po st sl le ++ (ClW cq k th co bu tg wa se ld ++ (RqW rq k ow wr fi sz dl wt bl sh so tn sn un))) zz [.ref d, .int z] (fun w9 => w9 = DkW d (cq 0) (rq 0) ck hd po st (if le - z ≤ 0 ∨ wa o = 0 then (-1) else sl) (if le - z ≤ 0 ∨ wa o = 0 then nI 0 else le - z) ++ (ClW cq k th co bu tg wa se ld ++ (RqW rq k ow wr fi sz dl wt bl sh so tn sn un))) 0 0 := by
  refine bodyOf (Qc := fun A => QV D k (fun w9 => w9 = DkW d (cq 0) (rq 0) ck hd po st (if le - z ≤ 0 ∨ wa o = 0 then (-1) else sl) (if le - z ≤ 0 ∨ wa o = 0 then nI 0 else le - z) ++ (ClW cq k th co bu tg wa se ld ++ (RqW rq k ow wr fi sz dl wt bl sh so tn sn un))) A) (cc := cX2_takeFromSlice) (maxL := 2) (ret := none) (by decide) rfl (Nat.le_of_ble_eq_true rfl) ?_
  intro p e s m below meth c A ls hc hA hK hP hD hS hl
  obtain ⟨hx, hb, hml, hr, hts, hown, hlocks, hin⟩ := (show _ from hc)
  have hl : lv_has ls 2 [(0, .ref d), (1, .int z)] := hl
  subst hsl
  refine lv_aload_n hx hb dX2_takeFromSlice_0 rfl (lv_at hl 0 rfl) ?_
  refine lv_dup hx hb dX2_takeFromSlice_1 rfl ?_
  refine va_get (D := D) (ci := 2) (v := .int le) (C := RX2) (T := TX2) (N := 8) hx hb hts iwX2_takeFromSlice_X2 hown hK hP 0 rfl rfl 7 (by decide) (hts (Cond.fieldLink RX2 146 "ShareDisk" "sliceLeft" "I") mwX2_takeFromSlice_0) (fun _ h9 => h9) rfl dX2_takeFromSlice_2 ?_
  refine lv_iload_n hx hb dX2_takeFromSlice_5 rfl (lv_at hl 1 rfl) ?_
  refine lv_isub hx hb dX2_takeFromSlice_6 ?_
  refine va_put (D := D) (ci := 2) (v := .int (le - z)) (ty := .int) (C := RX2) (T := TX2) (N := 8) hx hb hts iwX2_takeFromSlice_X2 tyX2 tyX2_ok nmX2 hown hK hP hD hS 0 rfl rfl 7 (by decide) (hts (Cond.fieldLink RX2 146 "ShareDisk" "sliceLeft" "I") mwX2_takeFromSlice_0) (fun _ h9 => h9) rfl (by decide +kernel) rfl rfl (Nat.le_of_ble_eq_true rfl) dX2_takeFromSlice_7 (fun H locs hP hD hS => ?_)
  have hP : va_P D vwCl (DkW d (cq 0) (rq 0) ck hd po st (nI o) (le - z) ++ (ClW cq k th co bu tg wa se ld ++ (RqW rq k ow wr fi sz dl wt bl sh so tn sn un))) H := hP
  have hD : va_D A (DkW d (cq 0) (rq 0) ck hd po st (nI o) (le - z) ++ (ClW cq k th co bu tg wa se ld ++ (RqW rq k ow wr fi sz dl wt bl sh so tn sn un))) := hD
  refine lv_aload_n hx hb dX2_takeFromSlice_10 rfl (lv_at hl 0 rfl) ?_
  refine va_get (D := D) (ci := 2) (v := .int (le - z)) (C := RX2) (T := TX2) (N := 8) hx hb hts iwX2_takeFromSlice_X2 hown hK hP 0 rfl rfl 7 (by decide) (hts (Cond.fieldLink RX2 146 "ShareDisk" "sliceLeft" "I") mwX2_takeFromSlice_0) (fun _ h9 => h9) rfl dX2_takeFromSlice_11 ?_
  refine lv_if_le (tgt := 31) hx hb dX2_takeFromSlice_14 (by decide) (fun c1 => ?_) (fun c1 => ?_)
  · refine lv_aload_n hx hb dX2_takeFromSlice_31 rfl (lv_at hl 0 rfl) ?_
    refine goVV0 hc (kX2_endSlice l D k d cq rq H.size ck hd po st (nI o) (le - z) th co bu tg wa se ld ow wr fi sz dl wt bl sh so tn sn un) (cwV 0 hts gX2_takeFromSlice_X2_endSlice rfl rfl rfl (by decide +kernel) ⟨(Nat.le_of_ble_eq_true rfl), (Nat.le_of_ble_eq_true rfl)⟩) hP hD hK hS hA (ci := 2) (q0 := 0) rfl rfl rfl hl.1 rfl (Nat.le_of_ble_eq_true rfl) dX2_takeFromSlice_32 (Nat.le_of_ble_eq_true rfl) (Nat.le_of_ble_eq_true rfl) (fun B9 H locs hq hP hD hS => ?_)
    subst hq
    have hP : va_P D vwCl (DkW d (cq 0) (rq 0) ck hd po st (-1) (nI 0) ++ (ClW cq k th co bu tg wa se ld ++ (RqW rq k ow wr fi sz dl wt bl sh so tn sn un))) H := hP
    have hD : va_D A (DkW d (cq 0) (rq 0) ck hd po st (-1) (nI 0) ++ (ClW cq k th co bu tg wa se ld ++ (RqW rq k ow wr fi sz dl wt bl sh so tn sn un))) := hD
    exact retV hc dX2_takeFromSlice_35 hK hP hD hS (by rw [if_pos (Or.inl c1), if_pos (Or.inl c1)]) (Nat.le_of_ble_eq_true rfl) (Nat.le_of_ble_eq_true rfl)
  · refine lv_aload_n hx hb dX2_takeFromSlice_17 rfl (lv_at hl 0 rfl) ?_
    refine va_get (D := D) (ci := 2) (v := .ref (cq 0)) (C := RX2) (T := TX2) (N := 8) hx hb hts iwX2_takeFromSlice_X2 hown hK hP 0 rfl rfl 0 (by decide) (hts (Cond.fieldLink RX2 10 "ShareDisk" "clients" "LShareDisk$Clients;") mwX2_takeFromSlice_1) (fun _ h9 => h9) rfl dX2_takeFromSlice_18 ?_
    refine lv_aload_n hx hb dX2_takeFromSlice_21 rfl (lv_at hl 0 rfl) ?_
    refine va_get (D := D) (ci := 2) (v := .int (nI o)) (C := RX2) (T := TX2) (N := 8) hx hb hts iwX2_takeFromSlice_X2 hown hK hP 0 rfl rfl 6 (by decide) (hts (Cond.fieldLink RX2 23 "ShareDisk" "sliceOwner" "I") mwX2_takeFromSlice_2) (fun _ h9 => h9) rfl dX2_takeFromSlice_22 ?_
    refine goVI hc (kX0_waitingOf l D k cq H.size th co bu tg wa se ld o (ho)) (cwV 1 hts gX2_takeFromSlice_X0_waitingOf rfl rfl rfl (by decide +kernel) ⟨(Nat.le_of_ble_eq_true rfl), (Nat.le_of_ble_eq_true rfl)⟩) hP hD hK hS hA (ci := 0) (q0 := 0) rfl rfl rfl hl.1 rfl (Nat.le_of_ble_eq_true rfl) dX2_takeFromSlice_25 (Nat.le_of_ble_eq_true rfl) (Nat.le_of_ble_eq_true rfl) (fun r9 B9 H locs hq hP hD hS => ?_)
    obtain ⟨hr9, rfl⟩ := hq
    subst hr9
    have hP : va_P D vwCl (DkW d (cq 0) (rq 0) ck hd po st (nI o) (le - z) ++ (ClW cq k th co bu tg wa se ld ++ (RqW rq k ow wr fi sz dl wt bl sh so tn sn un))) H := hP
    have hD : va_D A (DkW d (cq 0) (rq 0) ck hd po st (nI o) (le - z) ++ (ClW cq k th co bu tg wa se ld ++ (RqW rq k ow wr fi sz dl wt bl sh so tn sn un))) := hD
    refine lv_if_ne (tgt := 35) hx hb dX2_takeFromSlice_28 (by decide) (fun c2 => ?_) (fun c2 => ?_)
    · exact retV hc dX2_takeFromSlice_35 hK hP hD hS (by rw [if_neg (fun h => h.elim c1 c2), if_neg (fun h => h.elim c1 c2)]) (Nat.le_of_ble_eq_true rfl) (Nat.le_of_ble_eq_true rfl)
    · refine lv_aload_n hx hb dX2_takeFromSlice_31 rfl (lv_at hl 0 rfl) ?_
      refine goVV0 hc (kX2_endSlice l D k d cq rq H.size ck hd po st (nI o) (le - z) th co bu tg wa se ld ow wr fi sz dl wt bl sh so tn sn un) (cwV 0 hts gX2_takeFromSlice_X2_endSlice rfl rfl rfl (by decide +kernel) ⟨(Nat.le_of_ble_eq_true rfl), (Nat.le_of_ble_eq_true rfl)⟩) hP hD hK hS hA (ci := 2) (q0 := 0) rfl rfl rfl hl.1 rfl (Nat.le_of_ble_eq_true rfl) dX2_takeFromSlice_32 (Nat.le_of_ble_eq_true rfl) (Nat.le_of_ble_eq_true rfl) (fun B9 H locs hq hP hD hS => ?_)
      subst hq
      have hP : va_P D vwCl (DkW d (cq 0) (rq 0) ck hd po st (-1) (nI 0) ++ (ClW cq k th co bu tg wa se ld ++ (RqW rq k ow wr fi sz dl wt bl sh so tn sn un))) H := hP
      have hD : va_D A (DkW d (cq 0) (rq 0) ck hd po st (-1) (nI 0) ++ (ClW cq k th co bu tg wa se ld ++ (RqW rq k ow wr fi sz dl wt bl sh so tn sn un))) := hD
      exact retV hc dX2_takeFromSlice_35 hK hP hD hS (by rw [if_pos (Or.inr c2), if_pos (Or.inr c2)]) (Nat.le_of_ble_eq_true rfl) (Nat.le_of_ble_eq_true rfl)
theorem mwX2_beginSlice_0 : Cond.fieldLink RX2 10 "ShareDisk" "clients" "LShareDisk$Clients;" ∈ wsX2_beginSlice := by decide +kernel
theorem mwX2_beginSlice_1 : Cond.fieldLink RX2 23 "ShareDisk" "sliceOwner" "I" ∈ wsX2_beginSlice := by decide +kernel
theorem mwX2_beginSlice_2 : Cond.fieldLink RX2 146 "ShareDisk" "sliceLeft" "I" ∈ wsX2_beginSlice := by decide +kernel
theorem mwX2_beginSlice_3 : Cond.fieldLink RX2 38 "ShareDisk" "systemTag" "J" ∈ wsX2_beginSlice := by decide +kernel
theorem iwX2_beginSlice_X2 : ∀ w ∈ wsX20, w ∈ wsX2_beginSlice := by decide +kernel
set_option maxHeartbeats 4000000 in
set_option maxRecDepth 100000 in
theorem kX2_beginSlice (l : Launch) (D : va_G) (k : Nat → ClassId) (d : Nat) (cq : Nat → Nat) (rq : Nat → Nat) (zz : Nat) (ck : Int64) (hd : Int32) (po st : Int64) (sl le : Int32) (th co bu : Nat → Int32) (tg : Nat → Int64) (wa se : Nat → Int32) (ld : Nat → Nat → Int64) (ow wr fi sz : Nat → Int32) (dl : Nat → Int64) (wt bl sh so : Nat → Int32) (tn sn un : Nat) : MV l yX2_beginSlice wsX2_beginSlice ({ frames := 1, cells := 0, slots := 0, locals := 22 } : Room) D k (DkW d (cq 0) (rq 0) ck hd po st sl le ++ (ClW cq k th co bu tg wa se ld ++ (RqW rq k ow wr fi sz dl wt bl sh so tn sn un))) zz [.ref d] (fun w9 => w9 = DkW d (cq 0) (rq 0) ck hd po (oC (nit wa tg 8) st tg) (oC (nit wa tg 8) sl (fun j => nI j)) (oC (nit wa tg 8) le bu) ++ (ClW cq k th co bu tg wa se ld ++ (RqW rq k ow wr fi sz dl wt bl sh so tn sn un))) 0 0 := by
  refine bodyOf (Qc := fun A => QV D k (fun w9 => w9 = DkW d (cq 0) (rq 0) ck hd po (oC (nit wa tg 8) st tg) (oC (nit wa tg 8) sl (fun j => nI j)) (oC (nit wa tg 8) le bu) ++ (ClW cq k th co bu tg wa se ld ++ (RqW rq k ow wr fi sz dl wt bl sh so tn sn un))) A) (cc := cX2_beginSlice) (maxL := 2) (ret := none) (by decide) rfl (Nat.le_of_ble_eq_true rfl) ?_
  intro p e s m below meth c A ls hc hA hK hP hD hS hl
  obtain ⟨hx, hb, hml, hr, hts, hown, hlocks, hin⟩ := (show _ from hc)
  have hl : lv_has ls 2 [(0, .ref d)] := hl
  refine lv_aload_n hx hb dX2_beginSlice_0 rfl (lv_at hl 0 rfl) ?_
  refine va_get (D := D) (ci := 2) (v := .ref (cq 0)) (C := RX2) (T := TX2) (N := 8) hx hb hts iwX2_beginSlice_X2 hown hK hP 0 rfl rfl 0 (by decide) (hts (Cond.fieldLink RX2 10 "ShareDisk" "clients" "LShareDisk$Clients;") mwX2_beginSlice_0) (fun _ h9 => h9) rfl dX2_beginSlice_1 ?_
  refine goVI hc (kX0_nextInTurn l D k cq s.heap.size th co bu tg wa se ld) (cwV 0 hts gX2_beginSlice_X0_nextInTurn rfl rfl rfl (by decide +kernel) ⟨(Nat.le_of_ble_eq_true rfl), (Nat.le_of_ble_eq_true rfl)⟩) hP hD hK hS hA (ci := 0) (q0 := 0) rfl rfl rfl hl.1 rfl (Nat.le_of_ble_eq_true rfl) dX2_beginSlice_4 (Nat.le_of_ble_eq_true rfl) (Nat.le_of_ble_eq_true rfl) (fun r9 B9 H locs hq hP hD hS => ?_)
  obtain ⟨hr9, rfl⟩ := hq
  subst hr9
  obtain ⟨bt, ebt⟩ : ∃ z9, z9 = nit wa tg 8 := ⟨_, rfl⟩
  rw [← ebt]
  have hP : va_P D vwCl (DkW d (cq 0) (rq 0) ck hd po st sl le ++ (ClW cq k th co bu tg wa se ld ++ (RqW rq k ow wr fi sz dl wt bl sh so tn sn un))) H := hP
  have hD : va_D A (DkW d (cq 0) (rq 0) ck hd po st sl le ++ (ClW cq k th co bu tg wa se ld ++ (RqW rq k ow wr fi sz dl wt bl sh so tn sn un))) := hD
  refine lv_istore_n (lv' := [(1, .int (oI bt)), (0, .ref d)]) hx hb dX2_beginSlice_7 rfl hl (by decide) rfl (fun ls hl => ?_)
  rcases bt with _ | j
  · have hl : lv_has ls 2 [(1, .int (-1)), (0, .ref d)] := hl
    refine lv_iload_n hx hb dX2_beginSlice_8 rfl (lv_at hl 0 rfl) ?_
    refine lv_iconst (v := (-1)) hx hb dX2_beginSlice_9 (by decide) ?_
    refine lv_icmp_eq (tgt := 42) hx hb dX2_beginSlice_10 (by decide) (fun c1 => ?_) (fun c1 => False.elim (c1 rfl))
    exact retV hc dX2_beginSlice_42 hK hP hD hS (rfl) (Nat.le_of_ble_eq_true rfl) (Nat.le_of_ble_eq_true rfl)
  · have hl : lv_has ls 2 [(1, .int (nI j)), (0, .ref d)] := hl
    refine lv_iload_n hx hb dX2_beginSlice_8 rfl (lv_at hl 0 rfl) ?_
    refine lv_iconst (v := (-1)) hx hb dX2_beginSlice_9 (by decide) ?_
    refine lv_icmp_eq (tgt := 42) hx hb dX2_beginSlice_10 (by decide) (fun c2 => False.elim (nI_ne_m1 (show j < 2 ^ 31 by have := nit_lt _ _ ebt.symm; omega) c2)) (fun c2 => ?_)
    refine lv_aload_n hx hb dX2_beginSlice_13 rfl (lv_at hl 1 rfl) ?_
    refine lv_iload_n hx hb dX2_beginSlice_14 rfl (lv_at hl 0 rfl) ?_
    refine va_put (D := D) (ci := 2) (v := .int (nI j)) (ty := .int) (C := RX2) (T := TX2) (N := 8) hx hb hts iwX2_beginSlice_X2 tyX2 tyX2_ok nmX2 hown hK hP hD hS 0 rfl rfl 6 (by decide) (hts (Cond.fieldLink RX2 23 "ShareDisk" "sliceOwner" "I") mwX2_beginSlice_1) (fun _ h9 => h9) rfl (by decide +kernel) rfl rfl (Nat.le_of_ble_eq_true rfl) dX2_beginSlice_15 (fun H locs hP hD hS => ?_)
    have hP : va_P D vwCl (DkW d (cq 0) (rq 0) ck hd po st (nI j) le ++ (ClW cq k th co bu tg wa se ld ++ (RqW rq k ow wr fi sz dl wt bl sh so tn sn un))) H := hP
    have hD : va_D A (DkW d (cq 0) (rq 0) ck hd po st (nI j) le ++ (ClW cq k th co bu tg wa se ld ++ (RqW rq k ow wr fi sz dl wt bl sh so tn sn un))) := hD
    refine lv_aload_n hx hb dX2_beginSlice_18 rfl (lv_at hl 1 rfl) ?_
    refine lv_aload_n hx hb dX2_beginSlice_19 rfl (lv_at hl 1 rfl) ?_
    refine va_get (D := D) (ci := 2) (v := .ref (cq 0)) (C := RX2) (T := TX2) (N := 8) hx hb hts iwX2_beginSlice_X2 hown hK hP 0 rfl rfl 0 (by decide) (hts (Cond.fieldLink RX2 10 "ShareDisk" "clients" "LShareDisk$Clients;") mwX2_beginSlice_0) (fun _ h9 => h9) rfl dX2_beginSlice_20 ?_
    refine lv_iload_n hx hb dX2_beginSlice_23 rfl (lv_at hl 0 rfl) ?_
    refine goVI hc (kX0_budgetOf l D k cq H.size th co bu tg wa se ld j (nit_lt _ _ ebt.symm)) (cwV 1 hts gX2_beginSlice_X0_budgetOf rfl rfl rfl (by decide +kernel) ⟨(Nat.le_of_ble_eq_true rfl), (Nat.le_of_ble_eq_true rfl)⟩) hP hD hK hS hA (ci := 0) (q0 := 0) rfl rfl rfl hl.1 rfl (Nat.le_of_ble_eq_true rfl) dX2_beginSlice_24 (Nat.le_of_ble_eq_true rfl) (Nat.le_of_ble_eq_true rfl) (fun r9 B9 H locs hq hP hD hS => ?_)
    obtain ⟨hr9, rfl⟩ := hq
    subst hr9
    have hP : va_P D vwCl (DkW d (cq 0) (rq 0) ck hd po st (nI j) le ++ (ClW cq k th co bu tg wa se ld ++ (RqW rq k ow wr fi sz dl wt bl sh so tn sn un))) H := hP
    have hD : va_D A (DkW d (cq 0) (rq 0) ck hd po st (nI j) le ++ (ClW cq k th co bu tg wa se ld ++ (RqW rq k ow wr fi sz dl wt bl sh so tn sn un))) := hD
    refine va_put (D := D) (ci := 2) (v := .int (bu j)) (ty := .int) (C := RX2) (T := TX2) (N := 8) hx hb hts iwX2_beginSlice_X2 tyX2 tyX2_ok nmX2 hown hK hP hD hS 0 rfl rfl 7 (by decide) (hts (Cond.fieldLink RX2 146 "ShareDisk" "sliceLeft" "I") mwX2_beginSlice_2) (fun _ h9 => h9) rfl (by decide +kernel) rfl rfl (Nat.le_of_ble_eq_true rfl) dX2_beginSlice_27 (fun H locs hP hD hS => ?_)
    have hP : va_P D vwCl (DkW d (cq 0) (rq 0) ck hd po st (nI j) (bu j) ++ (ClW cq k th co bu tg wa se ld ++ (RqW rq k ow wr fi sz dl wt bl sh so tn sn un))) H := hP
    have hD : va_D A (DkW d (cq 0) (rq 0) ck hd po st (nI j) (bu j) ++ (ClW cq k th co bu tg wa se ld ++ (RqW rq k ow wr fi sz dl wt bl sh so tn sn un))) := hD
    refine lv_aload_n hx hb dX2_beginSlice_30 rfl (lv_at hl 1 rfl) ?_
    refine lv_aload_n hx hb dX2_beginSlice_31 rfl (lv_at hl 1 rfl) ?_
    refine va_get (D := D) (ci := 2) (v := .ref (cq 0)) (C := RX2) (T := TX2) (N := 8) hx hb hts iwX2_beginSlice_X2 hown hK hP 0 rfl rfl 0 (by decide) (hts (Cond.fieldLink RX2 10 "ShareDisk" "clients" "LShareDisk$Clients;") mwX2_beginSlice_0) (fun _ h9 => h9) rfl dX2_beginSlice_32 ?_
    refine lv_iload_n hx hb dX2_beginSlice_35 rfl (lv_at hl 0 rfl) ?_
    refine goVL hc (kX0_tagOf l D k cq H.size th co bu tg wa se ld j (nit_lt _ _ ebt.symm)) (cwV 1 hts gX2_beginSlice_X0_tagOf rfl rfl rfl (by decide +kernel) ⟨(Nat.le_of_ble_eq_true rfl), (Nat.le_of_ble_eq_true rfl)⟩) hP hD hK hS hA (ci := 0) (q0 := 0) rfl rfl rfl hl.1 rfl (Nat.le_of_ble_eq_true rfl) dX2_beginSlice_36 (Nat.le_of_ble_eq_true rfl) (Nat.le_of_ble_eq_true rfl) (fun r9 B9 H locs hq hP hD hS => ?_)
    obtain ⟨hr9, rfl⟩ := hq
    subst hr9
    have hP : va_P D vwCl (DkW d (cq 0) (rq 0) ck hd po st (nI j) (bu j) ++ (ClW cq k th co bu tg wa se ld ++ (RqW rq k ow wr fi sz dl wt bl sh so tn sn un))) H := hP
    have hD : va_D A (DkW d (cq 0) (rq 0) ck hd po st (nI j) (bu j) ++ (ClW cq k th co bu tg wa se ld ++ (RqW rq k ow wr fi sz dl wt bl sh so tn sn un))) := hD
    refine va_put (D := D) (ci := 2) (v := .long (tg j)) (ty := .long) (C := RX2) (T := TX2) (N := 8) hx hb hts iwX2_beginSlice_X2 tyX2 tyX2_ok nmX2 hown hK hP hD hS 0 rfl rfl 5 (by decide) (hts (Cond.fieldLink RX2 38 "ShareDisk" "systemTag" "J") mwX2_beginSlice_3) (fun _ h9 => h9) rfl (by decide +kernel) rfl rfl (Nat.le_of_ble_eq_true rfl) dX2_beginSlice_39 (fun H locs hP hD hS => ?_)
    have hP : va_P D vwCl (DkW d (cq 0) (rq 0) ck hd po (tg j) (nI j) (bu j) ++ (ClW cq k th co bu tg wa se ld ++ (RqW rq k ow wr fi sz dl wt bl sh so tn sn un))) H := hP
    have hD : va_D A (DkW d (cq 0) (rq 0) ck hd po (tg j) (nI j) (bu j) ++ (ClW cq k th co bu tg wa se ld ++ (RqW rq k ow wr fi sz dl wt bl sh so tn sn un))) := hD
    exact retV hc dX2_beginSlice_42 hK hP hD hS (rfl) (Nat.le_of_ble_eq_true rfl) (Nat.le_of_ble_eq_true rfl)
theorem mwX2_serve_0 : Cond.fieldLink RX2 19 "ShareDisk" "requests" "LShareDisk$Requests;" ∈ wsX2_serve := by decide +kernel
theorem mwX2_serve_1 : Cond.fieldLink RX2 10 "ShareDisk" "clients" "LShareDisk$Clients;" ∈ wsX2_serve := by decide +kernel
theorem mwX2_serve_2 : Cond.fieldLink RX2 23 "ShareDisk" "sliceOwner" "I" ∈ wsX2_serve := by decide +kernel
theorem mwX2_serve_3 : Cond.fieldLink RX2 38 "ShareDisk" "systemTag" "J" ∈ wsX2_serve := by decide +kernel
theorem iwX2_serve_X2 : ∀ w ∈ wsX20, w ∈ wsX2_serve := by decide +kernel
set_option maxHeartbeats 4000000 in
set_option maxRecDepth 100000 in
theorem kX2_serve (l : Launch) (D : va_G) (k : Nat → ClassId) (d : Nat) (cq : Nat → Nat) (rq : Nat → Nat) (zz : Nat) (ck : Int64) (hd : Int32) (po st : Int64) (sl le : Int32) (th co bu : Nat → Int32) (tg : Nat → Int64) (wa se : Nat → Int32) (ld : Nat → Nat → Int64) (ow wr fi sz : Nat → Int32) (dl : Nat → Int64) (wt bl sh so : Nat → Int32) (tn sn un : Nat) (t : Nat) (h : Int32) (o : Nat) (ht : t < tn) (htn : tn ≤ 500) (hsn : sn < tn) (ho : o < 8) (how : ow t = nI o) : MV l yX2_serve wsX2_serve ({ frames := 2, cells := 0, slots := 0, locals := 48 } : Room) D k (DkW d (cq 0) (rq 0) ck hd po st sl le ++ (ClW cq k th co bu tg wa se ld ++ (RqW rq k ow wr fi sz dl wt bl sh so tn sn un))) zz [.ref d, .int (nI t), .int h] (fun w9 => w9 = DkW d (cq 0) (rq 0) (ck + (abI (fi t - hd) / nI 100 + sz t).toInt64) (fi t + sz t) (po + (abI (fi t - hd)).toInt64) (if tn - (sn + 1) = 0 then gtF th (vp_updL tg o (tg o + (co o).toInt64 * (sz t).toInt64)) st 8 else st) (if nI o = sl then (if le - sz t ≤ 0 ∨ (upd wa o (wa o - nI 1)) o = 0 then (-1) else sl) else sl) (if nI o = sl then (if le - sz t ≤ 0 ∨ (upd wa o (wa o - nI 1)) o = 0 then nI 0 else le - sz t) else le) ++ (ClW cq k th co bu (vp_updL tg o (tg o + (co o).toInt64 * (sz t).toInt64)) (upd wa o (wa o - nI 1)) (upd se o (se o + sz t)) (nsL ld o ((co o).toInt64 * (sz t).toInt64) 8) ++ (RqW rq k ow wr fi sz dl (upd wt t (nI 0)) (msB ow wr fi sz bl t tn) (upd sh t h) (upd so sn (nI t)) tn (sn + 1) (if h = nI 3 then un + 1 else un)))) 0 0 := by
  refine bodyOf (Qc := fun A => QV D k (fun w9 => w9 = DkW d (cq 0) (rq 0) (ck + (abI (fi t - hd) / nI 100 + sz t).toInt64) (fi t + sz t) (po + (abI (fi t - hd)).toInt64) (if tn - (sn + 1) = 0 then gtF th (vp_updL tg o (tg o + (co o).toInt64 * (sz t).toInt64)) st 8 else st) (if nI o = sl then (if le - sz t ≤ 0 ∨ (upd wa o (wa o - nI 1)) o = 0 then (-1) else sl) else sl) (if nI o = sl then (if le - sz t ≤ 0 ∨ (upd wa o (wa o - nI 1)) o = 0 then nI 0 else le - sz t) else le) ++ (ClW cq k th co bu (vp_updL tg o (tg o + (co o).toInt64 * (sz t).toInt64)) (upd wa o (wa o - nI 1)) (upd se o (se o + sz t)) (nsL ld o ((co o).toInt64 * (sz t).toInt64) 8) ++ (RqW rq k ow wr fi sz dl (upd wt t (nI 0)) (msB ow wr fi sz bl t tn) (upd sh t h) (upd so sn (nI t)) tn (sn + 1) (if h = nI 3 then un + 1 else un)))) A) (cc := cX2_serve) (maxL := 5) (ret := none) (by decide) rfl (Nat.le_of_ble_eq_true rfl) ?_
  intro p e s m below meth c A ls hc hA hK hP hD hS hl
  obtain ⟨hx, hb, hml, hr, hts, hown, hlocks, hin⟩ := (show _ from hc)
  have hl : lv_has ls 5 [(0, .ref d), (1, .int (nI t)), (2, .int h)] := hl
  refine lv_aload_n hx hb dX2_serve_0 rfl (lv_at hl 0 rfl) ?_
  refine va_get (D := D) (ci := 2) (v := .ref (rq 0)) (C := RX2) (T := TX2) (N := 8) hx hb hts iwX2_serve_X2 hown hK hP 0 rfl rfl 1 (by decide) (hts (Cond.fieldLink RX2 19 "ShareDisk" "requests" "LShareDisk$Requests;") mwX2_serve_0) (fun _ h9 => h9) rfl dX2_serve_1 ?_
  refine lv_iload_n hx hb dX2_serve_4 rfl (lv_at hl 1 rfl) ?_
  refine goVI2 hc (kX1_ownerOf l D k rq s.heap.size ow wr fi sz dl wt bl sh so tn sn un t (by omega)) (cwV 1 hts gX2_serve_X1_ownerOf rfl rfl rfl (by decide +kernel) ⟨(Nat.le_of_ble_eq_true rfl), (Nat.le_of_ble_eq_true rfl)⟩) hP hD hK hS hA (ci := 1) (q0 := 0) rfl rfl rfl hl.1 rfl (Nat.le_of_ble_eq_true rfl) dX2_serve_5 (Nat.le_of_ble_eq_true rfl) (Nat.le_of_ble_eq_true rfl) (fun r9 B9 H locs hq hP hD hS => ?_)
  obtain ⟨hr9, rfl⟩ := hq
  subst hr9
  have hP : va_P D vwCl (DkW d (cq 0) (rq 0) ck hd po st sl le ++ (ClW cq k th co bu tg wa se ld ++ (RqW rq k ow wr fi sz dl wt bl sh so tn sn un))) H := hP
  have hD : va_D A (DkW d (cq 0) (rq 0) ck hd po st sl le ++ (ClW cq k th co bu tg wa se ld ++ (RqW rq k ow wr fi sz dl wt bl sh so tn sn un))) := hD
  rw [how]
  refine lv_istore_n (lv' := [(3, .int (nI o)), (0, .ref d), (1, .int (nI t)), (2, .int h)]) hx hb dX2_serve_8 rfl hl (by decide) rfl (fun ls hl => ?_)
  refine lv_aload_n hx hb dX2_serve_9 rfl (lv_at hl 1 rfl) ?_
  refine va_get (D := D) (ci := 2) (v := .ref (rq 0)) (C := RX2) (T := TX2) (N := 8) hx hb hts iwX2_serve_X2 hown hK hP 0 rfl rfl 1 (by decide) (hts (Cond.fieldLink RX2 19 "ShareDisk" "requests" "LShareDisk$Requests;") mwX2_serve_0) (fun _ h9 => h9) rfl dX2_serve_10 ?_
  refine lv_iload_n hx hb dX2_serve_13 rfl (lv_at hl 2 rfl) ?_
  refine goVI2 hc (kX1_sizeOf l D k rq H.size ow wr fi sz dl wt bl sh so tn sn un t (by omega)) (cwV 1 hts gX2_serve_X1_sizeOf rfl rfl rfl (by decide +kernel) ⟨(Nat.le_of_ble_eq_true rfl), (Nat.le_of_ble_eq_true rfl)⟩) hP hD hK hS hA (ci := 1) (q0 := 0) rfl rfl rfl hl.1 rfl (Nat.le_of_ble_eq_true rfl) dX2_serve_14 (Nat.le_of_ble_eq_true rfl) (Nat.le_of_ble_eq_true rfl) (fun r9 B9 H locs hq hP hD hS => ?_)
  obtain ⟨hr9, rfl⟩ := hq
  subst hr9
  have hP : va_P D vwCl (DkW d (cq 0) (rq 0) ck hd po st sl le ++ (ClW cq k th co bu tg wa se ld ++ (RqW rq k ow wr fi sz dl wt bl sh so tn sn un))) H := hP
  have hD : va_D A (DkW d (cq 0) (rq 0) ck hd po st sl le ++ (ClW cq k th co bu tg wa se ld ++ (RqW rq k ow wr fi sz dl wt bl sh so tn sn un))) := hD
  refine lv_istore (lv' := [(4, .int (sz t)), (3, .int (nI o)), (0, .ref d), (1, .int (nI t)), (2, .int h)]) hx hb dX2_serve_17 hl (by decide) rfl (fun ls hl => ?_)
  refine lv_aload_n hx hb dX2_serve_19 rfl (lv_at hl 2 rfl) ?_
  refine lv_aload_n hx hb dX2_serve_20 rfl (lv_at hl 2 rfl) ?_
  refine va_get (D := D) (ci := 2) (v := .ref (rq 0)) (C := RX2) (T := TX2) (N := 8) hx hb hts iwX2_serve_X2 hown hK hP 0 rfl rfl 1 (by decide) (hts (Cond.fieldLink RX2 19 "ShareDisk" "requests" "LShareDisk$Requests;") mwX2_serve_0) (fun _ h9 => h9) rfl dX2_serve_21 ?_
  refine lv_iload_n hx hb dX2_serve_24 rfl (lv_at hl 3 rfl) ?_
  refine goVI2 hc (kX1_firstOf l D k rq H.size ow wr fi sz dl wt bl sh so tn sn un t (by omega)) (cwV 1 hts gX2_serve_X1_firstOf rfl rfl rfl (by decide +kernel) ⟨(Nat.le_of_ble_eq_true rfl), (Nat.le_of_ble_eq_true rfl)⟩) hP hD hK hS hA (ci := 1) (q0 := 0) rfl rfl rfl hl.1 rfl (Nat.le_of_ble_eq_true rfl) dX2_serve_25 (Nat.le_of_ble_eq_true rfl) (Nat.le_of_ble_eq_true rfl) (fun r9 B9 H locs hq hP hD hS => ?_)
  obtain ⟨hr9, rfl⟩ := hq
  subst hr9
  have hP : va_P D vwCl (DkW d (cq 0) (rq 0) ck hd po st sl le ++ (ClW cq k th co bu tg wa se ld ++ (RqW rq k ow wr fi sz dl wt bl sh so tn sn un))) H := hP
  have hD : va_D A (DkW d (cq 0) (rq 0) ck hd po st sl le ++ (ClW cq k th co bu tg wa se ld ++ (RqW rq k ow wr fi sz dl wt bl sh so tn sn un))) := hD
  refine lv_iload hx hb dX2_serve_28 (lv_at hl 0 rfl) ?_
  refine goVV0 hc (kX2_moveHead l D k d cq rq H.size ck hd po st sl le th co bu tg wa se ld ow wr fi sz dl wt bl sh so tn sn un (fi t) (sz t)) (cwV 2 hts gX2_serve_X2_moveHead rfl rfl rfl (by decide +kernel) ⟨(Nat.le_of_ble_eq_true rfl), (Nat.le_of_ble_eq_true rfl)⟩) hP hD hK hS hA (ci := 2) (q0 := 0) rfl rfl rfl hl.1 rfl (Nat.le_of_ble_eq_true rfl) dX2_serve_30 (Nat.le_of_ble_eq_true rfl) (Nat.le_of_ble_eq_true rfl) (fun B9 H locs hq hP hD hS => ?_)
  subst hq
  have hP : va_P D vwCl (DkW d (cq 0) (rq 0) (ck + (abI ((fi t) - hd) / nI 100 + (sz t)).toInt64) ((fi t) + (sz t)) (po + (abI ((fi t) - hd)).toInt64) st sl le ++ (ClW cq k th co bu tg wa se ld ++ (RqW rq k ow wr fi sz dl wt bl sh so tn sn un))) H := hP
  have hD : va_D A (DkW d (cq 0) (rq 0) (ck + (abI ((fi t) - hd) / nI 100 + (sz t)).toInt64) ((fi t) + (sz t)) (po + (abI ((fi t) - hd)).toInt64) st sl le ++ (ClW cq k th co bu tg wa se ld ++ (RqW rq k ow wr fi sz dl wt bl sh so tn sn un))) := hD
  refine lv_aload_n hx hb dX2_serve_33 rfl (lv_at hl 2 rfl) ?_
  refine va_get (D := D) (ci := 2) (v := .ref (rq 0)) (C := RX2) (T := TX2) (N := 8) hx hb hts iwX2_serve_X2 hown hK hP 0 rfl rfl 1 (by decide) (hts (Cond.fieldLink RX2 19 "ShareDisk" "requests" "LShareDisk$Requests;") mwX2_serve_0) (fun _ h9 => h9) rfl dX2_serve_34 ?_
  refine lv_iload_n hx hb dX2_serve_37 rfl (lv_at hl 3 rfl) ?_
  refine lv_iload_n hx hb dX2_serve_38 rfl (lv_at hl 4 rfl) ?_
  refine goVV2 hc (kX1_markServed l D k rq H.size ow wr fi sz dl wt bl sh so tn sn un t h (by omega) (htn) (by omega)) (cwV 2 hts gX2_serve_X1_markServed rfl rfl rfl (by decide +kernel) ⟨(Nat.le_of_ble_eq_true rfl), (Nat.le_of_ble_eq_true rfl)⟩) hP hD hK hS hA (ci := 1) (q0 := 0) rfl rfl rfl hl.1 rfl (Nat.le_of_ble_eq_true rfl) dX2_serve_39 (Nat.le_of_ble_eq_true rfl) (Nat.le_of_ble_eq_true rfl) (fun B9 H locs hq hP hD hS => ?_)
  subst hq
  have hP : va_P D vwCl (DkW d (cq 0) (rq 0) (ck + (abI ((fi t) - hd) / nI 100 + (sz t)).toInt64) ((fi t) + (sz t)) (po + (abI ((fi t) - hd)).toInt64) st sl le ++ (ClW cq k th co bu tg wa se ld ++ (RqW rq k ow wr fi sz dl (upd wt t (nI 0)) (msB ow wr fi sz bl t tn) (upd sh t h) (upd so sn (nI t)) tn (sn + 1) (if h = nI 3 then un + 1 else un)))) H := hP
  have hD : va_D A (DkW d (cq 0) (rq 0) (ck + (abI ((fi t) - hd) / nI 100 + (sz t)).toInt64) ((fi t) + (sz t)) (po + (abI ((fi t) - hd)).toInt64) st sl le ++ (ClW cq k th co bu tg wa se ld ++ (RqW rq k ow wr fi sz dl (upd wt t (nI 0)) (msB ow wr fi sz bl t tn) (upd sh t h) (upd so sn (nI t)) tn (sn + 1) (if h = nI 3 then un + 1 else un)))) := hD
  refine lv_aload_n hx hb dX2_serve_42 rfl (lv_at hl 2 rfl) ?_
  refine va_get (D := D) (ci := 2) (v := .ref (cq 0)) (C := RX2) (T := TX2) (N := 8) hx hb hts iwX2_serve_X2 hown hK hP 0 rfl rfl 0 (by decide) (hts (Cond.fieldLink RX2 10 "ShareDisk" "clients" "LShareDisk$Clients;") mwX2_serve_1) (fun _ h9 => h9) rfl dX2_serve_43 ?_
  refine lv_iload_n hx hb dX2_serve_46 rfl (lv_at hl 1 rfl) ?_
  refine lv_iload hx hb dX2_serve_47 (lv_at hl 0 rfl) ?_
  refine goVV hc (kX0_noteService l D k cq H.size th co bu tg wa se ld o (sz t) (ho)) (cwV 2 hts gX2_serve_X0_noteService rfl rfl rfl (by decide +kernel) ⟨(Nat.le_of_ble_eq_true rfl), (Nat.le_of_ble_eq_true rfl)⟩) hP hD hK hS hA (ci := 0) (q0 := 0) rfl rfl rfl hl.1 rfl (Nat.le_of_ble_eq_true rfl) dX2_serve_49 (Nat.le_of_ble_eq_true rfl) (Nat.le_of_ble_eq_true rfl) (fun B9 H locs hq hP hD hS => ?_)
  subst hq
  have hP : va_P D vwCl (DkW d (cq 0) (rq 0) (ck + (abI ((fi t) - hd) / nI 100 + (sz t)).toInt64) ((fi t) + (sz t)) (po + (abI ((fi t) - hd)).toInt64) st sl le ++ (ClW cq k th co bu (vp_updL tg o (tg o + (co o).toInt64 * (sz t).toInt64)) (upd wa o (wa o - nI 1)) (upd se o (se o + (sz t))) (nsL ld o ((co o).toInt64 * (sz t).toInt64) 8) ++ (RqW rq k ow wr fi sz dl (upd wt t (nI 0)) (msB ow wr fi sz bl t tn) (upd sh t h) (upd so sn (nI t)) tn (sn + 1) (if h = nI 3 then un + 1 else un)))) H := hP
  have hD : va_D A (DkW d (cq 0) (rq 0) (ck + (abI ((fi t) - hd) / nI 100 + (sz t)).toInt64) ((fi t) + (sz t)) (po + (abI ((fi t) - hd)).toInt64) st sl le ++ (ClW cq k th co bu (vp_updL tg o (tg o + (co o).toInt64 * (sz t).toInt64)) (upd wa o (wa o - nI 1)) (upd se o (se o + (sz t))) (nsL ld o ((co o).toInt64 * (sz t).toInt64) 8) ++ (RqW rq k ow wr fi sz dl (upd wt t (nI 0)) (msB ow wr fi sz bl t tn) (upd sh t h) (upd so sn (nI t)) tn (sn + 1) (if h = nI 3 then un + 1 else un)))) := hD
  refine lv_iload_n hx hb dX2_serve_52 rfl (lv_at hl 1 rfl) ?_
  refine lv_aload_n hx hb dX2_serve_53 rfl (lv_at hl 2 rfl) ?_
  refine va_get (D := D) (ci := 2) (v := .int sl) (C := RX2) (T := TX2) (N := 8) hx hb hts iwX2_serve_X2 hown hK hP 0 rfl rfl 6 (by decide) (hts (Cond.fieldLink RX2 23 "ShareDisk" "sliceOwner" "I") mwX2_serve_2) (fun _ h9 => h9) rfl dX2_serve_54 ?_
  refine lv_icmp_ne (tgt := 66) hx hb dX2_serve_57 (by decide) (fun c1 => ?_) (fun c1 => ?_)
  · refine lv_aload_n hx hb dX2_serve_66 rfl (lv_at hl 2 rfl) ?_
    refine va_get (D := D) (ci := 2) (v := .ref (rq 0)) (C := RX2) (T := TX2) (N := 8) hx hb hts iwX2_serve_X2 hown hK hP 0 rfl rfl 1 (by decide) (hts (Cond.fieldLink RX2 19 "ShareDisk" "requests" "LShareDisk$Requests;") mwX2_serve_0) (fun _ h9 => h9) rfl dX2_serve_67 ?_
    refine goVI2 hc (kX1_waiting l D k rq H.size ow wr fi sz dl (upd wt t (nI 0)) (msB ow wr fi sz bl t tn) (upd sh t h) (upd so sn (nI t)) tn (sn + 1) (if h = nI 3 then un + 1 else un) (by omega)) (cwV 0 hts gX2_serve_X1_waiting rfl rfl rfl (by decide +kernel) ⟨(Nat.le_of_ble_eq_true rfl), (Nat.le_of_ble_eq_true rfl)⟩) hP hD hK hS hA (ci := 1) (q0 := 0) rfl rfl rfl hl.1 rfl (Nat.le_of_ble_eq_true rfl) dX2_serve_70 (Nat.le_of_ble_eq_true rfl) (Nat.le_of_ble_eq_true rfl) (fun r9 B9 H locs hq hP hD hS => ?_)
    obtain ⟨hr9, rfl⟩ := hq
    subst hr9
    have hP : va_P D vwCl (DkW d (cq 0) (rq 0) (ck + (abI ((fi t) - hd) / nI 100 + (sz t)).toInt64) ((fi t) + (sz t)) (po + (abI ((fi t) - hd)).toInt64) st sl le ++ (ClW cq k th co bu (vp_updL tg o (tg o + (co o).toInt64 * (sz t).toInt64)) (upd wa o (wa o - nI 1)) (upd se o (se o + (sz t))) (nsL ld o ((co o).toInt64 * (sz t).toInt64) 8) ++ (RqW rq k ow wr fi sz dl (upd wt t (nI 0)) (msB ow wr fi sz bl t tn) (upd sh t h) (upd so sn (nI t)) tn (sn + 1) (if h = nI 3 then un + 1 else un)))) H := hP
    have hD : va_D A (DkW d (cq 0) (rq 0) (ck + (abI ((fi t) - hd) / nI 100 + (sz t)).toInt64) ((fi t) + (sz t)) (po + (abI ((fi t) - hd)).toInt64) st sl le ++ (ClW cq k th co bu (vp_updL tg o (tg o + (co o).toInt64 * (sz t).toInt64)) (upd wa o (wa o - nI 1)) (upd se o (se o + (sz t))) (nsL ld o ((co o).toInt64 * (sz t).toInt64) 8) ++ (RqW rq k ow wr fi sz dl (upd wt t (nI 0)) (msB ow wr fi sz bl t tn) (upd sh t h) (upd so sn (nI t)) tn (sn + 1) (if h = nI 3 then un + 1 else un)))) := hD
    refine lv_if_ne (tgt := 91) hx hb dX2_serve_73 (by decide) (fun c2 => ?_) (fun c2 => ?_)
    · have hz9 : ¬ tn - (sn + 1) = 0 := fun h9 => c2 (by rw [h9]; rfl)
      exact retV hc dX2_serve_91 hK hP hD hS (by rw [if_neg hz9, if_neg c1, if_neg c1]) (Nat.le_of_ble_eq_true rfl) (Nat.le_of_ble_eq_true rfl)
    · refine lv_aload_n hx hb dX2_serve_76 rfl (lv_at hl 2 rfl) ?_
      refine lv_aload_n hx hb dX2_serve_77 rfl (lv_at hl 2 rfl) ?_
      refine va_get (D := D) (ci := 2) (v := .ref (cq 0)) (C := RX2) (T := TX2) (N := 8) hx hb hts iwX2_serve_X2 hown hK hP 0 rfl rfl 0 (by decide) (hts (Cond.fieldLink RX2 10 "ShareDisk" "clients" "LShareDisk$Clients;") mwX2_serve_1) (fun _ h9 => h9) rfl dX2_serve_78 ?_
      refine lv_aload_n hx hb dX2_serve_81 rfl (lv_at hl 2 rfl) ?_
      refine va_get (D := D) (ci := 2) (v := .long st) (C := RX2) (T := TX2) (N := 8) hx hb hts iwX2_serve_X2 hown hK hP 0 rfl rfl 5 (by decide) (hts (Cond.fieldLink RX2 38 "ShareDisk" "systemTag" "J") mwX2_serve_3) (fun _ h9 => h9) rfl dX2_serve_82 ?_
      refine goVL hc (kX0_greatestTag l D k cq H.size th co bu (vp_updL tg o (tg o + (co o).toInt64 * (sz t).toInt64)) (upd wa o (wa o - nI 1)) (upd se o (se o + (sz t))) (nsL ld o ((co o).toInt64 * (sz t).toInt64) 8) st) (cwV 1 hts gX2_serve_X0_greatestTag rfl rfl rfl (by decide +kernel) ⟨(Nat.le_of_ble_eq_true rfl), (Nat.le_of_ble_eq_true rfl)⟩) hP hD hK hS hA (ci := 0) (q0 := 0) rfl rfl rfl hl.1 rfl (Nat.le_of_ble_eq_true rfl) dX2_serve_85 (Nat.le_of_ble_eq_true rfl) (Nat.le_of_ble_eq_true rfl) (fun r9 B9 H locs hq hP hD hS => ?_)
      obtain ⟨hr9, rfl⟩ := hq
      subst hr9
      have hP : va_P D vwCl (DkW d (cq 0) (rq 0) (ck + (abI ((fi t) - hd) / nI 100 + (sz t)).toInt64) ((fi t) + (sz t)) (po + (abI ((fi t) - hd)).toInt64) st sl le ++ (ClW cq k th co bu (vp_updL tg o (tg o + (co o).toInt64 * (sz t).toInt64)) (upd wa o (wa o - nI 1)) (upd se o (se o + (sz t))) (nsL ld o ((co o).toInt64 * (sz t).toInt64) 8) ++ (RqW rq k ow wr fi sz dl (upd wt t (nI 0)) (msB ow wr fi sz bl t tn) (upd sh t h) (upd so sn (nI t)) tn (sn + 1) (if h = nI 3 then un + 1 else un)))) H := hP
      have hD : va_D A (DkW d (cq 0) (rq 0) (ck + (abI ((fi t) - hd) / nI 100 + (sz t)).toInt64) ((fi t) + (sz t)) (po + (abI ((fi t) - hd)).toInt64) st sl le ++ (ClW cq k th co bu (vp_updL tg o (tg o + (co o).toInt64 * (sz t).toInt64)) (upd wa o (wa o - nI 1)) (upd se o (se o + (sz t))) (nsL ld o ((co o).toInt64 * (sz t).toInt64) 8) ++ (RqW rq k ow wr fi sz dl (upd wt t (nI 0)) (msB ow wr fi sz bl t tn) (upd sh t h) (upd so sn (nI t)) tn (sn + 1) (if h = nI 3 then un + 1 else un)))) := hD
      refine va_put (D := D) (ci := 2) (v := .long (gtF th (vp_updL tg o (tg o + (co o).toInt64 * (sz t).toInt64)) st 8)) (ty := .long) (C := RX2) (T := TX2) (N := 8) hx hb hts iwX2_serve_X2 tyX2 tyX2_ok nmX2 hown hK hP hD hS 0 rfl rfl 5 (by decide) (hts (Cond.fieldLink RX2 38 "ShareDisk" "systemTag" "J") mwX2_serve_3) (fun _ h9 => h9) rfl (by decide +kernel) rfl rfl (Nat.le_of_ble_eq_true rfl) dX2_serve_88 (fun H locs hP hD hS => ?_)
      have hP : va_P D vwCl (DkW d (cq 0) (rq 0) (ck + (abI ((fi t) - hd) / nI 100 + (sz t)).toInt64) ((fi t) + (sz t)) (po + (abI ((fi t) - hd)).toInt64) (gtF th (vp_updL tg o (tg o + (co o).toInt64 * (sz t).toInt64)) st 8) sl le ++ (ClW cq k th co bu (vp_updL tg o (tg o + (co o).toInt64 * (sz t).toInt64)) (upd wa o (wa o - nI 1)) (upd se o (se o + (sz t))) (nsL ld o ((co o).toInt64 * (sz t).toInt64) 8) ++ (RqW rq k ow wr fi sz dl (upd wt t (nI 0)) (msB ow wr fi sz bl t tn) (upd sh t h) (upd so sn (nI t)) tn (sn + 1) (if h = nI 3 then un + 1 else un)))) H := hP
      have hD : va_D A (DkW d (cq 0) (rq 0) (ck + (abI ((fi t) - hd) / nI 100 + (sz t)).toInt64) ((fi t) + (sz t)) (po + (abI ((fi t) - hd)).toInt64) (gtF th (vp_updL tg o (tg o + (co o).toInt64 * (sz t).toInt64)) st 8) sl le ++ (ClW cq k th co bu (vp_updL tg o (tg o + (co o).toInt64 * (sz t).toInt64)) (upd wa o (wa o - nI 1)) (upd se o (se o + (sz t))) (nsL ld o ((co o).toInt64 * (sz t).toInt64) 8) ++ (RqW rq k ow wr fi sz dl (upd wt t (nI 0)) (msB ow wr fi sz bl t tn) (upd sh t h) (upd so sn (nI t)) tn (sn + 1) (if h = nI 3 then un + 1 else un)))) := hD
      have hz9 : tn - (sn + 1) = 0 := (nI_eq (a := tn - (sn + 1)) (b := 0) (by omega) (by decide)).mp c2
      exact retV hc dX2_serve_91 hK hP hD hS (by rw [if_pos hz9, if_neg c1, if_neg c1]) (Nat.le_of_ble_eq_true rfl) (Nat.le_of_ble_eq_true rfl)
  · refine lv_aload_n hx hb dX2_serve_60 rfl (lv_at hl 2 rfl) ?_
    refine lv_iload hx hb dX2_serve_61 (lv_at hl 0 rfl) ?_
    refine goVV0 hc (kX2_takeFromSlice l D k d cq rq H.size (ck + (abI ((fi t) - hd) / nI 100 + (sz t)).toInt64) ((fi t) + (sz t)) (po + (abI ((fi t) - hd)).toInt64) st sl le th co bu (vp_updL tg o (tg o + (co o).toInt64 * (sz t).toInt64)) (upd wa o (wa o - nI 1)) (upd se o (se o + (sz t))) (nsL ld o ((co o).toInt64 * (sz t).toInt64) 8) ow wr fi sz dl (upd wt t (nI 0)) (msB ow wr fi sz bl t tn) (upd sh t h) (upd so sn (nI t)) tn (sn + 1) (if h = nI 3 then un + 1 else un) (sz t) o (ho) (c1.symm)) (cwV 1 hts gX2_serve_X2_takeFromSlice rfl rfl rfl (by decide +kernel) ⟨(Nat.le_of_ble_eq_true rfl), (Nat.le_of_ble_eq_true rfl)⟩) hP hD hK hS hA (ci := 2) (q0 := 0) rfl rfl rfl hl.1 rfl (Nat.le_of_ble_eq_true rfl) dX2_serve_63 (Nat.le_of_ble_eq_true rfl) (Nat.le_of_ble_eq_true rfl) (fun B9 H locs hq hP hD hS => ?_)
    subst hq
    have hP : va_P D vwCl (DkW d (cq 0) (rq 0) (ck + (abI ((fi t) - hd) / nI 100 + (sz t)).toInt64) ((fi t) + (sz t)) (po + (abI ((fi t) - hd)).toInt64) st (if le - (sz t) ≤ 0 ∨ (upd wa o (wa o - nI 1)) o = 0 then (-1) else sl) (if le - (sz t) ≤ 0 ∨ (upd wa o (wa o - nI 1)) o = 0 then nI 0 else le - (sz t)) ++ (ClW cq k th co bu (vp_updL tg o (tg o + (co o).toInt64 * (sz t).toInt64)) (upd wa o (wa o - nI 1)) (upd se o (se o + (sz t))) (nsL ld o ((co o).toInt64 * (sz t).toInt64) 8) ++ (RqW rq k ow wr fi sz dl (upd wt t (nI 0)) (msB ow wr fi sz bl t tn) (upd sh t h) (upd so sn (nI t)) tn (sn + 1) (if h = nI 3 then un + 1 else un)))) H := hP
    have hD : va_D A (DkW d (cq 0) (rq 0) (ck + (abI ((fi t) - hd) / nI 100 + (sz t)).toInt64) ((fi t) + (sz t)) (po + (abI ((fi t) - hd)).toInt64) st (if le - (sz t) ≤ 0 ∨ (upd wa o (wa o - nI 1)) o = 0 then (-1) else sl) (if le - (sz t) ≤ 0 ∨ (upd wa o (wa o - nI 1)) o = 0 then nI 0 else le - (sz t)) ++ (ClW cq k th co bu (vp_updL tg o (tg o + (co o).toInt64 * (sz t).toInt64)) (upd wa o (wa o - nI 1)) (upd se o (se o + (sz t))) (nsL ld o ((co o).toInt64 * (sz t).toInt64) 8) ++ (RqW rq k ow wr fi sz dl (upd wt t (nI 0)) (msB ow wr fi sz bl t tn) (upd sh t h) (upd so sn (nI t)) tn (sn + 1) (if h = nI 3 then un + 1 else un)))) := hD
    refine lv_aload_n hx hb dX2_serve_66 rfl (lv_at hl 2 rfl) ?_
    refine va_get (D := D) (ci := 2) (v := .ref (rq 0)) (C := RX2) (T := TX2) (N := 8) hx hb hts iwX2_serve_X2 hown hK hP 0 rfl rfl 1 (by decide) (hts (Cond.fieldLink RX2 19 "ShareDisk" "requests" "LShareDisk$Requests;") mwX2_serve_0) (fun _ h9 => h9) rfl dX2_serve_67 ?_
    refine goVI2 hc (kX1_waiting l D k rq H.size ow wr fi sz dl (upd wt t (nI 0)) (msB ow wr fi sz bl t tn) (upd sh t h) (upd so sn (nI t)) tn (sn + 1) (if h = nI 3 then un + 1 else un) (by omega)) (cwV 0 hts gX2_serve_X1_waiting rfl rfl rfl (by decide +kernel) ⟨(Nat.le_of_ble_eq_true rfl), (Nat.le_of_ble_eq_true rfl)⟩) hP hD hK hS hA (ci := 1) (q0 := 0) rfl rfl rfl hl.1 rfl (Nat.le_of_ble_eq_true rfl) dX2_serve_70 (Nat.le_of_ble_eq_true rfl) (Nat.le_of_ble_eq_true rfl) (fun r9 B9 H locs hq hP hD hS => ?_)
    obtain ⟨hr9, rfl⟩ := hq
    subst hr9
    have hP : va_P D vwCl (DkW d (cq 0) (rq 0) (ck + (abI ((fi t) - hd) / nI 100 + (sz t)).toInt64) ((fi t) + (sz t)) (po + (abI ((fi t) - hd)).toInt64) st (if le - (sz t) ≤ 0 ∨ (upd wa o (wa o - nI 1)) o = 0 then (-1) else sl) (if le - (sz t) ≤ 0 ∨ (upd wa o (wa o - nI 1)) o = 0 then nI 0 else le - (sz t)) ++ (ClW cq k th co bu (vp_updL tg o (tg o + (co o).toInt64 * (sz t).toInt64)) (upd wa o (wa o - nI 1)) (upd se o (se o + (sz t))) (nsL ld o ((co o).toInt64 * (sz t).toInt64) 8) ++ (RqW rq k ow wr fi sz dl (upd wt t (nI 0)) (msB ow wr fi sz bl t tn) (upd sh t h) (upd so sn (nI t)) tn (sn + 1) (if h = nI 3 then un + 1 else un)))) H := hP
    have hD : va_D A (DkW d (cq 0) (rq 0) (ck + (abI ((fi t) - hd) / nI 100 + (sz t)).toInt64) ((fi t) + (sz t)) (po + (abI ((fi t) - hd)).toInt64) st (if le - (sz t) ≤ 0 ∨ (upd wa o (wa o - nI 1)) o = 0 then (-1) else sl) (if le - (sz t) ≤ 0 ∨ (upd wa o (wa o - nI 1)) o = 0 then nI 0 else le - (sz t)) ++ (ClW cq k th co bu (vp_updL tg o (tg o + (co o).toInt64 * (sz t).toInt64)) (upd wa o (wa o - nI 1)) (upd se o (se o + (sz t))) (nsL ld o ((co o).toInt64 * (sz t).toInt64) 8) ++ (RqW rq k ow wr fi sz dl (upd wt t (nI 0)) (msB ow wr fi sz bl t tn) (upd sh t h) (upd so sn (nI t)) tn (sn + 1) (if h = nI 3 then un + 1 else un)))) := hD
    refine lv_if_ne (tgt := 91) hx hb dX2_serve_73 (by decide) (fun c3 => ?_) (fun c3 => ?_)
    · have hz9 : ¬ tn - (sn + 1) = 0 := fun h9 => c3 (by rw [h9]; rfl)
      exact retV hc dX2_serve_91 hK hP hD hS (by rw [if_neg hz9, if_pos c1, if_pos c1]) (Nat.le_of_ble_eq_true rfl) (Nat.le_of_ble_eq_true rfl)
    · refine lv_aload_n hx hb dX2_serve_76 rfl (lv_at hl 2 rfl) ?_
      refine lv_aload_n hx hb dX2_serve_77 rfl (lv_at hl 2 rfl) ?_
      refine va_get (D := D) (ci := 2) (v := .ref (cq 0)) (C := RX2) (T := TX2) (N := 8) hx hb hts iwX2_serve_X2 hown hK hP 0 rfl rfl 0 (by decide) (hts (Cond.fieldLink RX2 10 "ShareDisk" "clients" "LShareDisk$Clients;") mwX2_serve_1) (fun _ h9 => h9) rfl dX2_serve_78 ?_
      refine lv_aload_n hx hb dX2_serve_81 rfl (lv_at hl 2 rfl) ?_
      refine va_get (D := D) (ci := 2) (v := .long st) (C := RX2) (T := TX2) (N := 8) hx hb hts iwX2_serve_X2 hown hK hP 0 rfl rfl 5 (by decide) (hts (Cond.fieldLink RX2 38 "ShareDisk" "systemTag" "J") mwX2_serve_3) (fun _ h9 => h9) rfl dX2_serve_82 ?_
      refine goVL hc (kX0_greatestTag l D k cq H.size th co bu (vp_updL tg o (tg o + (co o).toInt64 * (sz t).toInt64)) (upd wa o (wa o - nI 1)) (upd se o (se o + (sz t))) (nsL ld o ((co o).toInt64 * (sz t).toInt64) 8) st) (cwV 1 hts gX2_serve_X0_greatestTag rfl rfl rfl (by decide +kernel) ⟨(Nat.le_of_ble_eq_true rfl), (Nat.le_of_ble_eq_true rfl)⟩) hP hD hK hS hA (ci := 0) (q0 := 0) rfl rfl rfl hl.1 rfl (Nat.le_of_ble_eq_true rfl) dX2_serve_85 (Nat.le_of_ble_eq_true rfl) (Nat.le_of_ble_eq_true rfl) (fun r9 B9 H locs hq hP hD hS => ?_)
      obtain ⟨hr9, rfl⟩ := hq
      subst hr9
      have hP : va_P D vwCl (DkW d (cq 0) (rq 0) (ck + (abI ((fi t) - hd) / nI 100 + (sz t)).toInt64) ((fi t) + (sz t)) (po + (abI ((fi t) - hd)).toInt64) st (if le - (sz t) ≤ 0 ∨ (upd wa o (wa o - nI 1)) o = 0 then (-1) else sl) (if le - (sz t) ≤ 0 ∨ (upd wa o (wa o - nI 1)) o = 0 then nI 0 else le - (sz t)) ++ (ClW cq k th co bu (vp_updL tg o (tg o + (co o).toInt64 * (sz t).toInt64)) (upd wa o (wa o - nI 1)) (upd se o (se o + (sz t))) (nsL ld o ((co o).toInt64 * (sz t).toInt64) 8) ++ (RqW rq k ow wr fi sz dl (upd wt t (nI 0)) (msB ow wr fi sz bl t tn) (upd sh t h) (upd so sn (nI t)) tn (sn + 1) (if h = nI 3 then un + 1 else un)))) H := hP
      have hD : va_D A (DkW d (cq 0) (rq 0) (ck + (abI ((fi t) - hd) / nI 100 + (sz t)).toInt64) ((fi t) + (sz t)) (po + (abI ((fi t) - hd)).toInt64) st (if le - (sz t) ≤ 0 ∨ (upd wa o (wa o - nI 1)) o = 0 then (-1) else sl) (if le - (sz t) ≤ 0 ∨ (upd wa o (wa o - nI 1)) o = 0 then nI 0 else le - (sz t)) ++ (ClW cq k th co bu (vp_updL tg o (tg o + (co o).toInt64 * (sz t).toInt64)) (upd wa o (wa o - nI 1)) (upd se o (se o + (sz t))) (nsL ld o ((co o).toInt64 * (sz t).toInt64) 8) ++ (RqW rq k ow wr fi sz dl (upd wt t (nI 0)) (msB ow wr fi sz bl t tn) (upd sh t h) (upd so sn (nI t)) tn (sn + 1) (if h = nI 3 then un + 1 else un)))) := hD
      refine va_put (D := D) (ci := 2) (v := .long (gtF th (vp_updL tg o (tg o + (co o).toInt64 * (sz t).toInt64)) st 8)) (ty := .long) (C := RX2) (T := TX2) (N := 8) hx hb hts iwX2_serve_X2 tyX2 tyX2_ok nmX2 hown hK hP hD hS 0 rfl rfl 5 (by decide) (hts (Cond.fieldLink RX2 38 "ShareDisk" "systemTag" "J") mwX2_serve_3) (fun _ h9 => h9) rfl (by decide +kernel) rfl rfl (Nat.le_of_ble_eq_true rfl) dX2_serve_88 (fun H locs hP hD hS => ?_)
      have hP : va_P D vwCl (DkW d (cq 0) (rq 0) (ck + (abI ((fi t) - hd) / nI 100 + (sz t)).toInt64) ((fi t) + (sz t)) (po + (abI ((fi t) - hd)).toInt64) (gtF th (vp_updL tg o (tg o + (co o).toInt64 * (sz t).toInt64)) st 8) (if le - (sz t) ≤ 0 ∨ (upd wa o (wa o - nI 1)) o = 0 then (-1) else sl) (if le - (sz t) ≤ 0 ∨ (upd wa o (wa o - nI 1)) o = 0 then nI 0 else le - (sz t)) ++ (ClW cq k th co bu (vp_updL tg o (tg o + (co o).toInt64 * (sz t).toInt64)) (upd wa o (wa o - nI 1)) (upd se o (se o + (sz t))) (nsL ld o ((co o).toInt64 * (sz t).toInt64) 8) ++ (RqW rq k ow wr fi sz dl (upd wt t (nI 0)) (msB ow wr fi sz bl t tn) (upd sh t h) (upd so sn (nI t)) tn (sn + 1) (if h = nI 3 then un + 1 else un)))) H := hP
      have hD : va_D A (DkW d (cq 0) (rq 0) (ck + (abI ((fi t) - hd) / nI 100 + (sz t)).toInt64) ((fi t) + (sz t)) (po + (abI ((fi t) - hd)).toInt64) (gtF th (vp_updL tg o (tg o + (co o).toInt64 * (sz t).toInt64)) st 8) (if le - (sz t) ≤ 0 ∨ (upd wa o (wa o - nI 1)) o = 0 then (-1) else sl) (if le - (sz t) ≤ 0 ∨ (upd wa o (wa o - nI 1)) o = 0 then nI 0 else le - (sz t)) ++ (ClW cq k th co bu (vp_updL tg o (tg o + (co o).toInt64 * (sz t).toInt64)) (upd wa o (wa o - nI 1)) (upd se o (se o + (sz t))) (nsL ld o ((co o).toInt64 * (sz t).toInt64) 8) ++ (RqW rq k ow wr fi sz dl (upd wt t (nI 0)) (msB ow wr fi sz bl t tn) (upd sh t h) (upd so sn (nI t)) tn (sn + 1) (if h = nI 3 then un + 1 else un)))) := hD
      have hz9 : tn - (sn + 1) = 0 := (nI_eq (a := tn - (sn + 1)) (b := 0) (by omega) (by decide)).mp c3
      exact retV hc dX2_serve_91 hK hP hD hS (by rw [if_pos hz9, if_pos c1, if_pos c1]) (Nat.le_of_ble_eq_true rfl) (Nat.le_of_ble_eq_true rfl)
/-- the world behind a service -/
def svW (d : Nat) (cq rq : Nat → Nat) (k : Nat → ClassId) (ck : Int64) (hd : Int32) (po st : Int64) (sl le : Int32) (th co bu : Nat → Int32) (tg : Nat → Int64) (wa se : Nat → Int32) (ld : Nat → Nat → Int64) (ow wr fi sz : Nat → Int32) (dl : Nat → Int64) (wt bl sh so : Nat → Int32) (tn sn un : Nat) (t : Nat) (h : Int32) (o : Nat) : va_W := DkW d (cq 0) (rq 0) (ck + (abI (fi t - hd) / nI 100 + sz t).toInt64) (fi t + sz t) (po + (abI (fi t - hd)).toInt64) (if tn - (sn + 1) = 0 then gtF th (vp_updL tg o (tg o + (co o).toInt64 * (sz t).toInt64)) st 8 else st) (if nI o = sl then (if le - sz t ≤ 0 ∨ (upd wa o (wa o - nI 1)) o = 0 then (-1) else sl) else sl) (if nI o = sl then (if le - sz t ≤ 0 ∨ (upd wa o (wa o - nI 1)) o = 0 then nI 0 else le - sz t) else le) ++ (ClW cq k th co bu (vp_updL tg o (tg o + (co o).toInt64 * (sz t).toInt64)) (upd wa o (wa o - nI 1)) (upd se o (se o + sz t)) (nsL ld o ((co o).toInt64 * (sz t).toInt64) 8) ++ (RqW rq k ow wr fi sz dl (upd wt t (nI 0)) (msB ow wr fi sz bl t tn) (upd sh t h) (upd so sn (nI t)) tn (sn + 1) (if h = nI 3 then un + 1 else un)))
theorem mwX2_dispatch_0 : Cond.fieldLink RX2 19 "ShareDisk" "requests" "LShareDisk$Requests;" ∈ wsX2_dispatch := by decide +kernel
theorem mwX2_dispatch_1 : Cond.fieldLink RX2 79 "ShareDisk" "clock" "J" ∈ wsX2_dispatch := by decide +kernel
theorem mwX2_dispatch_2 : Cond.fieldLink RX2 23 "ShareDisk" "sliceOwner" "I" ∈ wsX2_dispatch := by decide +kernel
theorem mwX2_dispatch_3 : Cond.fieldLink RX2 97 "ShareDisk" "head" "I" ∈ wsX2_dispatch := by decide +kernel
theorem iwX2_dispatch_X2 : ∀ w ∈ wsX20, w ∈ wsX2_dispatch := by decide +kernel
set_option maxHeartbeats 4000000 in
set_option maxRecDepth 100000 in
theorem kX2_dispatch (l : Launch) (D : va_G) (k : Nat → ClassId) (d : Nat) (cq : Nat → Nat) (rq : Nat → Nat) (zz : Nat) (ck : Int64) (hd : Int32) (po st : Int64) (sl le : Int32) (th co bu : Nat → Int32) (tg : Nat → Int64) (wa se : Nat → Int32) (ld : Nat → Nat → Int64) (ow wr fi sz : Nat → Int32) (dl : Nat → Int64) (wt bl sh so : Nat → Int32) (tn sn un : Nat) (htn : tn ≤ 500) (how8 : ∀ t, t < tn → ∃ o, o < 8 ∧ ow t = nI o) (hfr : ∀ t, t < tn → stF wt bl sh t = nI 1 → sn < tn) : MI l yX2_dispatch wsX2_dispatch ({ frames := 3, cells := 0, slots := 0, locals := 72 } : Room) D k (DkW d (cq 0) (rq 0) ck hd po st sl le ++ (ClW cq k th co bu tg wa se ld ++ (RqW rq k ow wr fi sz dl wt bl sh so tn sn un))) zz [.ref d] (fun r9 w9 => (∃ t o, muF wt bl sh dl ck tn = some t ∧ o < 8 ∧ ow t = nI o ∧ r9 = nI t ∧ w9 = svW d cq rq k ck hd po st sl le th co bu tg wa se ld ow wr fi sz dl wt bl sh so tn sn un t (nI 3) o) ∨ (muF wt bl sh dl ck tn = none ∧ ∃ sl1 le1 st1, bsP sl le st wa bu tg sl1 le1 st1 ∧ ((naF ow fi wt bl sh sl1 hd tn = none ∧ r9 = -1 ∧ w9 = DkW d (cq 0) (rq 0) ck hd po st1 sl1 le1 ++ (ClW cq k th co bu tg wa se ld ++ (RqW rq k ow wr fi sz dl wt bl sh so tn sn un))) ∨ ∃ t o, naF ow fi wt bl sh sl1 hd tn = some t ∧ o < 8 ∧ ow t = nI o ∧ r9 = nI t ∧ w9 = svW d cq rq k ck hd po st1 sl1 le1 th co bu tg wa se ld ow wr fi sz dl wt bl sh so tn sn un t (nI 2) o))) 0 0 := by
  refine bodyOf (Qc := fun A => QI D k (fun r9 w9 => (∃ t o, muF wt bl sh dl ck tn = some t ∧ o < 8 ∧ ow t = nI o ∧ r9 = nI t ∧ w9 = svW d cq rq k ck hd po st sl le th co bu tg wa se ld ow wr fi sz dl wt bl sh so tn sn un t (nI 3) o) ∨ (muF wt bl sh dl ck tn = none ∧ ∃ sl1 le1 st1, bsP sl le st wa bu tg sl1 le1 st1 ∧ ((naF ow fi wt bl sh sl1 hd tn = none ∧ r9 = -1 ∧ w9 = DkW d (cq 0) (rq 0) ck hd po st1 sl1 le1 ++ (ClW cq k th co bu tg wa se ld ++ (RqW rq k ow wr fi sz dl wt bl sh so tn sn un))) ∨ ∃ t o, naF ow fi wt bl sh sl1 hd tn = some t ∧ o < 8 ∧ ow t = nI o ∧ r9 = nI t ∧ w9 = svW d cq rq k ck hd po st1 sl1 le1 th co bu tg wa se ld ow wr fi sz dl wt bl sh so tn sn un t (nI 2) o))) A) (cc := cX2_dispatch) (maxL := 3) (ret := (some .int)) (by decide) rfl (Nat.le_of_ble_eq_true rfl) ?_
  intro p e s m below meth c A ls hc hA hK hP hD hS hl
  obtain ⟨hx, hb, hml, hr, hts, hown, hlocks, hin⟩ := (show _ from hc)
  have hl : lv_has ls 3 [(0, .ref d)] := hl
  refine lv_aload_n hx hb dX2_dispatch_0 rfl (lv_at hl 0 rfl) ?_
  refine va_get (D := D) (ci := 2) (v := .ref (rq 0)) (C := RX2) (T := TX2) (N := 8) hx hb hts iwX2_dispatch_X2 hown hK hP 0 rfl rfl 1 (by decide) (hts (Cond.fieldLink RX2 19 "ShareDisk" "requests" "LShareDisk$Requests;") mwX2_dispatch_0) (fun _ h9 => h9) rfl dX2_dispatch_1 ?_
  refine lv_aload_n hx hb dX2_dispatch_4 rfl (lv_at hl 0 rfl) ?_
  refine va_get (D := D) (ci := 2) (v := .long ck) (C := RX2) (T := TX2) (N := 8) hx hb hts iwX2_dispatch_X2 hown hK hP 0 rfl rfl 2 (by decide) (hts (Cond.fieldLink RX2 79 "ShareDisk" "clock" "J") mwX2_dispatch_1) (fun _ h9 => h9) rfl dX2_dispatch_5 ?_
  refine goVI2 hc (kX1_mostUrgent l D k rq s.heap.size ow wr fi sz dl wt bl sh so tn sn un ck (htn)) (cwV 1 hts gX2_dispatch_X1_mostUrgent rfl rfl rfl (by decide +kernel) ⟨(Nat.le_of_ble_eq_true rfl), (Nat.le_of_ble_eq_true rfl)⟩) hP hD hK hS hA (ci := 1) (q0 := 0) rfl rfl rfl hl.1 rfl (Nat.le_of_ble_eq_true rfl) dX2_dispatch_8 (Nat.le_of_ble_eq_true rfl) (Nat.le_of_ble_eq_true rfl) (fun r9 B9 H locs hq hP hD hS => ?_)
  obtain ⟨hr9, rfl⟩ := hq
  subst hr9
  obtain ⟨bt, ebt⟩ : ∃ z9, z9 = muF wt bl sh dl ck tn := ⟨_, rfl⟩
  rw [← ebt]
  have hP : va_P D vwCl (DkW d (cq 0) (rq 0) ck hd po st sl le ++ (ClW cq k th co bu tg wa se ld ++ (RqW rq k ow wr fi sz dl wt bl sh so tn sn un))) H := hP
  have hD : va_D A (DkW d (cq 0) (rq 0) ck hd po st sl le ++ (ClW cq k th co bu tg wa se ld ++ (RqW rq k ow wr fi sz dl wt bl sh so tn sn un))) := hD
  refine lv_istore_n (lv' := [(1, .int (oI bt)), (0, .ref d)]) hx hb dX2_dispatch_11 rfl hl (by decide) rfl (fun ls hl => ?_)
  rcases bt with _ | j
  · have hl : lv_has ls 3 [(1, .int (-1)), (0, .ref d)] := hl
    refine lv_iload_n hx hb dX2_dispatch_12 rfl (lv_at hl 0 rfl) ?_
    refine lv_iconst (v := (-1)) hx hb dX2_dispatch_13 (by decide) ?_
    refine lv_icmp_eq (tgt := 25) hx hb dX2_dispatch_14 (by decide) (fun c1 => ?_) (fun c1 => False.elim (c1 rfl))
    refine lv_aload_n hx hb dX2_dispatch_25 rfl (lv_at hl 1 rfl) ?_
    refine va_get (D := D) (ci := 2) (v := .int sl) (C := RX2) (T := TX2) (N := 8) hx hb hts iwX2_dispatch_X2 hown hK hP 0 rfl rfl 6 (by decide) (hts (Cond.fieldLink RX2 23 "ShareDisk" "sliceOwner" "I") mwX2_dispatch_2) (fun _ h9 => h9) rfl dX2_dispatch_26 ?_
    refine lv_iconst (v := (-1)) hx hb dX2_dispatch_29 (by decide) ?_
    refine lv_icmp_ne (tgt := 37) hx hb dX2_dispatch_30 (by decide) (fun c2 => ?_) (fun c2 => ?_)
    · refine lv_aload_n hx hb dX2_dispatch_37 rfl (lv_at hl 1 rfl) ?_
      refine va_get (D := D) (ci := 2) (v := .ref (rq 0)) (C := RX2) (T := TX2) (N := 8) hx hb hts iwX2_dispatch_X2 hown hK hP 0 rfl rfl 1 (by decide) (hts (Cond.fieldLink RX2 19 "ShareDisk" "requests" "LShareDisk$Requests;") mwX2_dispatch_0) (fun _ h9 => h9) rfl dX2_dispatch_38 ?_
      refine lv_aload_n hx hb dX2_dispatch_41 rfl (lv_at hl 1 rfl) ?_
      refine va_get (D := D) (ci := 2) (v := .int sl) (C := RX2) (T := TX2) (N := 8) hx hb hts iwX2_dispatch_X2 hown hK hP 0 rfl rfl 6 (by decide) (hts (Cond.fieldLink RX2 23 "ShareDisk" "sliceOwner" "I") mwX2_dispatch_2) (fun _ h9 => h9) rfl dX2_dispatch_42 ?_
      refine lv_aload_n hx hb dX2_dispatch_45 rfl (lv_at hl 1 rfl) ?_
      refine va_get (D := D) (ci := 2) (v := .int hd) (C := RX2) (T := TX2) (N := 8) hx hb hts iwX2_dispatch_X2 hown hK hP 0 rfl rfl 3 (by decide) (hts (Cond.fieldLink RX2 97 "ShareDisk" "head" "I") mwX2_dispatch_3) (fun _ h9 => h9) rfl dX2_dispatch_46 ?_
      refine goVI2 hc (kX1_nextAlong l D k rq H.size ow wr fi sz dl wt bl sh so tn sn un sl hd (htn)) (cwV 2 hts gX2_dispatch_X1_nextAlong rfl rfl rfl (by decide +kernel) ⟨(Nat.le_of_ble_eq_true rfl), (Nat.le_of_ble_eq_true rfl)⟩) hP hD hK hS hA (ci := 1) (q0 := 0) rfl rfl rfl hl.1 rfl (Nat.le_of_ble_eq_true rfl) dX2_dispatch_49 (Nat.le_of_ble_eq_true rfl) (Nat.le_of_ble_eq_true rfl) (fun r9 B9 H locs hq hP hD hS => ?_)
      obtain ⟨hr9, rfl⟩ := hq
      subst hr9
      obtain ⟨nx, enx⟩ : ∃ z9, z9 = naF ow fi wt bl sh sl hd tn := ⟨_, rfl⟩
      rw [← enx]
      have hP : va_P D vwCl (DkW d (cq 0) (rq 0) ck hd po st sl le ++ (ClW cq k th co bu tg wa se ld ++ (RqW rq k ow wr fi sz dl wt bl sh so tn sn un))) H := hP
      have hD : va_D A (DkW d (cq 0) (rq 0) ck hd po st sl le ++ (ClW cq k th co bu tg wa se ld ++ (RqW rq k ow wr fi sz dl wt bl sh so tn sn un))) := hD
      refine lv_istore_n (lv' := [(2, .int (oI nx)), (1, .int (-1)), (0, .ref d)]) hx hb dX2_dispatch_52 rfl hl (by decide) rfl (fun ls hl => ?_)
      rcases nx with _ | j
      · have hl : lv_has ls 3 [(2, .int (-1)), (1, .int (-1)), (0, .ref d)] := hl
        refine lv_iload_n hx hb dX2_dispatch_53 rfl (lv_at hl 0 rfl) ?_
        refine lv_iconst (v := (-1)) hx hb dX2_dispatch_54 (by decide) ?_
        refine lv_icmp_eq (tgt := 64) hx hb dX2_dispatch_55 (by decide) (fun c3 => ?_) (fun c3 => False.elim (c3 rfl))
        refine lv_iload_n hx hb dX2_dispatch_64 rfl (lv_at hl 0 rfl) ?_
        exact retI hc dX2_dispatch_65 hK hP hD hS (Or.inr ⟨rfl, _, _, _, Or.inr ⟨c2, rfl, rfl, rfl⟩, Or.inl ⟨enx.symm, rfl, rfl⟩⟩) (Nat.le_of_ble_eq_true rfl) (Nat.le_of_ble_eq_true rfl)
      · have hl : lv_has ls 3 [(2, .int (nI j)), (1, .int (-1)), (0, .ref d)] := hl
        refine lv_iload_n hx hb dX2_dispatch_53 rfl (lv_at hl 0 rfl) ?_
        refine lv_iconst (v := (-1)) hx hb dX2_dispatch_54 (by decide) ?_
        refine lv_icmp_eq (tgt := 64) hx hb dX2_dispatch_55 (by decide) (fun c4 => False.elim (nI_ne_m1 (show j < 2 ^ 31 by have := naF_lt _ _ enx.symm; omega) c4)) (fun c4 => ?_)
        have hjt : j < tn := naF_lt _ _ enx.symm
        obtain ⟨o, ho, how⟩ := how8 j hjt
        refine lv_aload_n hx hb dX2_dispatch_58 rfl (lv_at hl 2 rfl) ?_
        refine lv_iload_n hx hb dX2_dispatch_59 rfl (lv_at hl 0 rfl) ?_
        refine lv_iconst (v := nI 2) hx hb dX2_dispatch_60 (by decide) ?_
        refine goVV0 hc (kX2_serve l D k d cq rq H.size ck hd po st sl le th co bu tg wa se ld ow wr fi sz dl wt bl sh so tn sn un j (nI 2) o (hjt) (htn) (hfr j hjt (naF_st _ _ enx.symm).1) (ho) (how)) (cwV 2 hts gX2_dispatch_X2_serve rfl rfl rfl (by decide +kernel) ⟨(Nat.le_of_ble_eq_true rfl), (Nat.le_of_ble_eq_true rfl)⟩) hP hD hK hS hA (ci := 2) (q0 := 0) rfl rfl rfl hl.1 rfl (Nat.le_of_ble_eq_true rfl) dX2_dispatch_61 (Nat.le_of_ble_eq_true rfl) (Nat.le_of_ble_eq_true rfl) (fun B9 H locs hq hP hD hS => ?_)
        subst hq
        have hP : va_P D vwCl (DkW d (cq 0) (rq 0) (ck + (abI (fi j - hd) / nI 100 + sz j).toInt64) (fi j + sz j) (po + (abI (fi j - hd)).toInt64) (if tn - (sn + 1) = 0 then gtF th (vp_updL tg o (tg o + (co o).toInt64 * (sz j).toInt64)) st 8 else st) (if nI o = sl then (if le - sz j ≤ 0 ∨ (upd wa o (wa o - nI 1)) o = 0 then (-1) else sl) else sl) (if nI o = sl then (if le - sz j ≤ 0 ∨ (upd wa o (wa o - nI 1)) o = 0 then nI 0 else le - sz j) else le) ++ (ClW cq k th co bu (vp_updL tg o (tg o + (co o).toInt64 * (sz j).toInt64)) (upd wa o (wa o - nI 1)) (upd se o (se o + sz j)) (nsL ld o ((co o).toInt64 * (sz j).toInt64) 8) ++ (RqW rq k ow wr fi sz dl (upd wt j (nI 0)) (msB ow wr fi sz bl j tn) (upd sh j (nI 2)) (upd so sn (nI j)) tn (sn + 1) (if (nI 2) = nI 3 then un + 1 else un)))) H := hP
        have hD : va_D A (DkW d (cq 0) (rq 0) (ck + (abI (fi j - hd) / nI 100 + sz j).toInt64) (fi j + sz j) (po + (abI (fi j - hd)).toInt64) (if tn - (sn + 1) = 0 then gtF th (vp_updL tg o (tg o + (co o).toInt64 * (sz j).toInt64)) st 8 else st) (if nI o = sl then (if le - sz j ≤ 0 ∨ (upd wa o (wa o - nI 1)) o = 0 then (-1) else sl) else sl) (if nI o = sl then (if le - sz j ≤ 0 ∨ (upd wa o (wa o - nI 1)) o = 0 then nI 0 else le - sz j) else le) ++ (ClW cq k th co bu (vp_updL tg o (tg o + (co o).toInt64 * (sz j).toInt64)) (upd wa o (wa o - nI 1)) (upd se o (se o + sz j)) (nsL ld o ((co o).toInt64 * (sz j).toInt64) 8) ++ (RqW rq k ow wr fi sz dl (upd wt j (nI 0)) (msB ow wr fi sz bl j tn) (upd sh j (nI 2)) (upd so sn (nI j)) tn (sn + 1) (if (nI 2) = nI 3 then un + 1 else un)))) := hD
        refine lv_iload_n hx hb dX2_dispatch_64 rfl (lv_at hl 0 rfl) ?_
        exact retI hc dX2_dispatch_65 hK hP hD hS (Or.inr ⟨rfl, _, _, _, Or.inr ⟨c2, rfl, rfl, rfl⟩, Or.inr ⟨j, o, enx.symm, ho, how, rfl, rfl⟩⟩) (Nat.le_of_ble_eq_true rfl) (Nat.le_of_ble_eq_true rfl)
    · refine lv_aload_n hx hb dX2_dispatch_33 rfl (lv_at hl 1 rfl) ?_
      refine goVV0 hc (kX2_beginSlice l D k d cq rq H.size ck hd po st sl le th co bu tg wa se ld ow wr fi sz dl wt bl sh so tn sn un) (cwV 0 hts gX2_dispatch_X2_beginSlice rfl rfl rfl (by decide +kernel) ⟨(Nat.le_of_ble_eq_true rfl), (Nat.le_of_ble_eq_true rfl)⟩) hP hD hK hS hA (ci := 2) (q0 := 0) rfl rfl rfl hl.1 rfl (Nat.le_of_ble_eq_true rfl) dX2_dispatch_34 (Nat.le_of_ble_eq_true rfl) (Nat.le_of_ble_eq_true rfl) (fun B9 H locs hq hP hD hS => ?_)
      subst hq
      have hP : va_P D vwCl (DkW d (cq 0) (rq 0) ck hd po (oC (nit wa tg 8) st tg) (oC (nit wa tg 8) sl (fun j => nI j)) (oC (nit wa tg 8) le bu) ++ (ClW cq k th co bu tg wa se ld ++ (RqW rq k ow wr fi sz dl wt bl sh so tn sn un))) H := hP
      have hD : va_D A (DkW d (cq 0) (rq 0) ck hd po (oC (nit wa tg 8) st tg) (oC (nit wa tg 8) sl (fun j => nI j)) (oC (nit wa tg 8) le bu) ++ (ClW cq k th co bu tg wa se ld ++ (RqW rq k ow wr fi sz dl wt bl sh so tn sn un))) := hD
      refine lv_aload_n hx hb dX2_dispatch_37 rfl (lv_at hl 1 rfl) ?_
      refine va_get (D := D) (ci := 2) (v := .ref (rq 0)) (C := RX2) (T := TX2) (N := 8) hx hb hts iwX2_dispatch_X2 hown hK hP 0 rfl rfl 1 (by decide) (hts (Cond.fieldLink RX2 19 "ShareDisk" "requests" "LShareDisk$Requests;") mwX2_dispatch_0) (fun _ h9 => h9) rfl dX2_dispatch_38 ?_
      refine lv_aload_n hx hb dX2_dispatch_41 rfl (lv_at hl 1 rfl) ?_
      refine va_get (D := D) (ci := 2) (v := .int (oC (nit wa tg 8) sl (fun j => nI j))) (C := RX2) (T := TX2) (N := 8) hx hb hts iwX2_dispatch_X2 hown hK hP 0 rfl rfl 6 (by decide) (hts (Cond.fieldLink RX2 23 "ShareDisk" "sliceOwner" "I") mwX2_dispatch_2) (fun _ h9 => h9) rfl dX2_dispatch_42 ?_
      refine lv_aload_n hx hb dX2_dispatch_45 rfl (lv_at hl 1 rfl) ?_
      refine va_get (D := D) (ci := 2) (v := .int hd) (C := RX2) (T := TX2) (N := 8) hx hb hts iwX2_dispatch_X2 hown hK hP 0 rfl rfl 3 (by decide) (hts (Cond.fieldLink RX2 97 "ShareDisk" "head" "I") mwX2_dispatch_3) (fun _ h9 => h9) rfl dX2_dispatch_46 ?_
      refine goVI2 hc (kX1_nextAlong l D k rq H.size ow wr fi sz dl wt bl sh so tn sn un (oC (nit wa tg 8) sl (fun j => nI j)) hd (htn)) (cwV 2 hts gX2_dispatch_X1_nextAlong rfl rfl rfl (by decide +kernel) ⟨(Nat.le_of_ble_eq_true rfl), (Nat.le_of_ble_eq_true rfl)⟩) hP hD hK hS hA (ci := 1) (q0 := 0) rfl rfl rfl hl.1 rfl (Nat.le_of_ble_eq_true rfl) dX2_dispatch_49 (Nat.le_of_ble_eq_true rfl) (Nat.le_of_ble_eq_true rfl) (fun r9 B9 H locs hq hP hD hS => ?_)
      obtain ⟨hr9, rfl⟩ := hq
      subst hr9
      obtain ⟨nx, enx⟩ : ∃ z9, z9 = naF ow fi wt bl sh (oC (nit wa tg 8) sl (fun j => nI j)) hd tn := ⟨_, rfl⟩
      rw [← enx]
      have hP : va_P D vwCl (DkW d (cq 0) (rq 0) ck hd po (oC (nit wa tg 8) st tg) (oC (nit wa tg 8) sl (fun j => nI j)) (oC (nit wa tg 8) le bu) ++ (ClW cq k th co bu tg wa se ld ++ (RqW rq k ow wr fi sz dl wt bl sh so tn sn un))) H := hP
      have hD : va_D A (DkW d (cq 0) (rq 0) ck hd po (oC (nit wa tg 8) st tg) (oC (nit wa tg 8) sl (fun j => nI j)) (oC (nit wa tg 8) le bu) ++ (ClW cq k th co bu tg wa se ld ++ (RqW rq k ow wr fi sz dl wt bl sh so tn sn un))) := hD
      refine lv_istore_n (lv' := [(2, .int (oI nx)), (1, .int (-1)), (0, .ref d)]) hx hb dX2_dispatch_52 rfl hl (by decide) rfl (fun ls hl => ?_)
      rcases nx with _ | j
      · have hl : lv_has ls 3 [(2, .int (-1)), (1, .int (-1)), (0, .ref d)] := hl
        refine lv_iload_n hx hb dX2_dispatch_53 rfl (lv_at hl 0 rfl) ?_
        refine lv_iconst (v := (-1)) hx hb dX2_dispatch_54 (by decide) ?_
        refine lv_icmp_eq (tgt := 64) hx hb dX2_dispatch_55 (by decide) (fun c5 => ?_) (fun c5 => False.elim (c5 rfl))
        refine lv_iload_n hx hb dX2_dispatch_64 rfl (lv_at hl 0 rfl) ?_
        exact retI hc dX2_dispatch_65 hK hP hD hS (Or.inr ⟨rfl, _, _, _, Or.inl ⟨c2, rfl, rfl, rfl⟩, Or.inl ⟨enx.symm, rfl, rfl⟩⟩) (Nat.le_of_ble_eq_true rfl) (Nat.le_of_ble_eq_true rfl)
      · have hl : lv_has ls 3 [(2, .int (nI j)), (1, .int (-1)), (0, .ref d)] := hl
        refine lv_iload_n hx hb dX2_dispatch_53 rfl (lv_at hl 0 rfl) ?_
        refine lv_iconst (v := (-1)) hx hb dX2_dispatch_54 (by decide) ?_
        refine lv_icmp_eq (tgt := 64) hx hb dX2_dispatch_55 (by decide) (fun c6 => False.elim (nI_ne_m1 (show j < 2 ^ 31 by have := naF_lt _ _ enx.symm; omega) c6)) (fun c6 => ?_)
        have hjt : j < tn := naF_lt _ _ enx.symm
        obtain ⟨o, ho, how⟩ := how8 j hjt
        refine lv_aload_n hx hb dX2_dispatch_58 rfl (lv_at hl 2 rfl) ?_
        refine lv_iload_n hx hb dX2_dispatch_59 rfl (lv_at hl 0 rfl) ?_
        refine lv_iconst (v := nI 2) hx hb dX2_dispatch_60 (by decide) ?_
        refine goVV0 hc (kX2_serve l D k d cq rq H.size ck hd po (oC (nit wa tg 8) st tg) (oC (nit wa tg 8) sl (fun j => nI j)) (oC (nit wa tg 8) le bu) th co bu tg wa se ld ow wr fi sz dl wt bl sh so tn sn un j (nI 2) o (hjt) (htn) (hfr j hjt (naF_st _ _ enx.symm).1) (ho) (how)) (cwV 2 hts gX2_dispatch_X2_serve rfl rfl rfl (by decide +kernel) ⟨(Nat.le_of_ble_eq_true rfl), (Nat.le_of_ble_eq_true rfl)⟩) hP hD hK hS hA (ci := 2) (q0 := 0) rfl rfl rfl hl.1 rfl (Nat.le_of_ble_eq_true rfl) dX2_dispatch_61 (Nat.le_of_ble_eq_true rfl) (Nat.le_of_ble_eq_true rfl) (fun B9 H locs hq hP hD hS => ?_)
        subst hq
        have hP : va_P D vwCl (DkW d (cq 0) (rq 0) (ck + (abI (fi j - hd) / nI 100 + sz j).toInt64) (fi j + sz j) (po + (abI (fi j - hd)).toInt64) (if tn - (sn + 1) = 0 then gtF th (vp_updL tg o (tg o + (co o).toInt64 * (sz j).toInt64)) (oC (nit wa tg 8) st tg) 8 else (oC (nit wa tg 8) st tg)) (if nI o = (oC (nit wa tg 8) sl (fun j => nI j)) then (if (oC (nit wa tg 8) le bu) - sz j ≤ 0 ∨ (upd wa o (wa o - nI 1)) o = 0 then (-1) else (oC (nit wa tg 8) sl (fun j => nI j))) else (oC (nit wa tg 8) sl (fun j => nI j))) (if nI o = (oC (nit wa tg 8) sl (fun j => nI j)) then (if (oC (nit wa tg 8) le bu) - sz j ≤ 0 ∨ (upd wa o (wa o - nI 1)) o = 0 then nI 0 else (oC (nit wa tg 8) le bu) - sz j) else (oC (nit wa tg 8) le bu)) ++ (ClW cq k th co bu (vp_updL tg o (tg o + (co o).toInt64 * (sz j).toInt64)) (upd wa o (wa o - nI 1)) (upd se o (se o + sz j)) (nsL ld o ((co o).toInt64 * (sz j).toInt64) 8) ++ (RqW rq k ow wr fi sz dl (upd wt j (nI 0)) (msB ow wr fi sz bl j tn) (upd sh j (nI 2)) (upd so sn (nI j)) tn (sn + 1) (if (nI 2) = nI 3 then un + 1 else un)))) H := hP
        have hD : va_D A (DkW d (cq 0) (rq 0) (ck + (abI (fi j - hd) / nI 100 + sz j).toInt64) (fi j + sz j) (po + (abI (fi j - hd)).toInt64) (if tn - (sn + 1) = 0 then gtF th (vp_updL tg o (tg o + (co o).toInt64 * (sz j).toInt64)) (oC (nit wa tg 8) st tg) 8 else (oC (nit wa tg 8) st tg)) (if nI o = (oC (nit wa tg 8) sl (fun j => nI j)) then (if (oC (nit wa tg 8) le bu) - sz j ≤ 0 ∨ (upd wa o (wa o - nI 1)) o = 0 then (-1) else (oC (nit wa tg 8) sl (fun j => nI j))) else (oC (nit wa tg 8) sl (fun j => nI j))) (if nI o = (oC (nit wa tg 8) sl (fun j => nI j)) then (if (oC (nit wa tg 8) le bu) - sz j ≤ 0 ∨ (upd wa o (wa o - nI 1)) o = 0 then nI 0 else (oC (nit wa tg 8) le bu) - sz j) else (oC (nit wa tg 8) le bu)) ++ (ClW cq k th co bu (vp_updL tg o (tg o + (co o).toInt64 * (sz j).toInt64)) (upd wa o (wa o - nI 1)) (upd se o (se o + sz j)) (nsL ld o ((co o).toInt64 * (sz j).toInt64) 8) ++ (RqW rq k ow wr fi sz dl (upd wt j (nI 0)) (msB ow wr fi sz bl j tn) (upd sh j (nI 2)) (upd so sn (nI j)) tn (sn + 1) (if (nI 2) = nI 3 then un + 1 else un)))) := hD
        refine lv_iload_n hx hb dX2_dispatch_64 rfl (lv_at hl 0 rfl) ?_
        exact retI hc dX2_dispatch_65 hK hP hD hS (Or.inr ⟨rfl, _, _, _, Or.inl ⟨c2, rfl, rfl, rfl⟩, Or.inr ⟨j, o, enx.symm, ho, how, rfl, rfl⟩⟩) (Nat.le_of_ble_eq_true rfl) (Nat.le_of_ble_eq_true rfl)
  · have hl : lv_has ls 3 [(1, .int (nI j)), (0, .ref d)] := hl
    refine lv_iload_n hx hb dX2_dispatch_12 rfl (lv_at hl 0 rfl) ?_
    refine lv_iconst (v := (-1)) hx hb dX2_dispatch_13 (by decide) ?_
    refine lv_icmp_eq (tgt := 25) hx hb dX2_dispatch_14 (by decide) (fun c7 => False.elim (nI_ne_m1 (show j < 2 ^ 31 by have := muF_lt _ _ ebt.symm; omega) c7)) (fun c7 => ?_)
    have hjt : j < tn := muF_lt _ _ ebt.symm
    obtain ⟨o, ho, how⟩ := how8 j hjt
    refine lv_aload_n hx hb dX2_dispatch_17 rfl (lv_at hl 1 rfl) ?_
    refine lv_iload_n hx hb dX2_dispatch_18 rfl (lv_at hl 0 rfl) ?_
    refine lv_iconst (v := nI 3) hx hb dX2_dispatch_19 (by decide) ?_
    refine goVV0 hc (kX2_serve l D k d cq rq H.size ck hd po st sl le th co bu tg wa se ld ow wr fi sz dl wt bl sh so tn sn un j (nI 3) o (hjt) (htn) (hfr j hjt (muF_st _ _ ebt.symm).1) (ho) (how)) (cwV 2 hts gX2_dispatch_X2_serve rfl rfl rfl (by decide +kernel) ⟨(Nat.le_of_ble_eq_true rfl), (Nat.le_of_ble_eq_true rfl)⟩) hP hD hK hS hA (ci := 2) (q0 := 0) rfl rfl rfl hl.1 rfl (Nat.le_of_ble_eq_true rfl) dX2_dispatch_20 (Nat.le_of_ble_eq_true rfl) (Nat.le_of_ble_eq_true rfl) (fun B9 H locs hq hP hD hS => ?_)
    subst hq
    have hP : va_P D vwCl (DkW d (cq 0) (rq 0) (ck + (abI (fi j - hd) / nI 100 + sz j).toInt64) (fi j + sz j) (po + (abI (fi j - hd)).toInt64) (if tn - (sn + 1) = 0 then gtF th (vp_updL tg o (tg o + (co o).toInt64 * (sz j).toInt64)) st 8 else st) (if nI o = sl then (if le - sz j ≤ 0 ∨ (upd wa o (wa o - nI 1)) o = 0 then (-1) else sl) else sl) (if nI o = sl then (if le - sz j ≤ 0 ∨ (upd wa o (wa o - nI 1)) o = 0 then nI 0 else le - sz j) else le) ++ (ClW cq k th co bu (vp_updL tg o (tg o + (co o).toInt64 * (sz j).toInt64)) (upd wa o (wa o - nI 1)) (upd se o (se o + sz j)) (nsL ld o ((co o).toInt64 * (sz j).toInt64) 8) ++ (RqW rq k ow wr fi sz dl (upd wt j (nI 0)) (msB ow wr fi sz bl j tn) (upd sh j (nI 3)) (upd so sn (nI j)) tn (sn + 1) (if (nI 3) = nI 3 then un + 1 else un)))) H := hP
    have hD : va_D A (DkW d (cq 0) (rq 0) (ck + (abI (fi j - hd) / nI 100 + sz j).toInt64) (fi j + sz j) (po + (abI (fi j - hd)).toInt64) (if tn - (sn + 1) = 0 then gtF th (vp_updL tg o (tg o + (co o).toInt64 * (sz j).toInt64)) st 8 else st) (if nI o = sl then (if le - sz j ≤ 0 ∨ (upd wa o (wa o - nI 1)) o = 0 then (-1) else sl) else sl) (if nI o = sl then (if le - sz j ≤ 0 ∨ (upd wa o (wa o - nI 1)) o = 0 then nI 0 else le - sz j) else le) ++ (ClW cq k th co bu (vp_updL tg o (tg o + (co o).toInt64 * (sz j).toInt64)) (upd wa o (wa o - nI 1)) (upd se o (se o + sz j)) (nsL ld o ((co o).toInt64 * (sz j).toInt64) 8) ++ (RqW rq k ow wr fi sz dl (upd wt j (nI 0)) (msB ow wr fi sz bl j tn) (upd sh j (nI 3)) (upd so sn (nI j)) tn (sn + 1) (if (nI 3) = nI 3 then un + 1 else un)))) := hD
    refine lv_iload_n hx hb dX2_dispatch_23 rfl (lv_at hl 0 rfl) ?_
    exact retI hc dX2_dispatch_24 hK hP hD hS (Or.inl ⟨j, o, rfl, ho, how, rfl, rfl⟩) (Nat.le_of_ble_eq_true rfl) (Nat.le_of_ble_eq_true rfl)
theorem mwX2_client_0 : Cond.classLink RX2 31 "java/lang/IllegalArgumentException" ∈ wsX2_client := by decide +kernel
theorem mwX2_client_1 : Cond.initialized "java/lang/IllegalArgumentException" ∈ wsX2_client := by decide +kernel
theorem mwX2_client_2 : Cond.fieldLink RX2 10 "ShareDisk" "clients" "LShareDisk$Clients;" ∈ wsX2_client := by decide +kernel
theorem mwX2_client_3 : Cond.fieldLink RX2 38 "ShareDisk" "systemTag" "J" ∈ wsX2_client := by decide +kernel
theorem iwX2_client_X2 : ∀ w ∈ wsX20, w ∈ wsX2_client := by decide +kernel
theorem xaX2_client_33 : ∀ w ∈ (vx_at0 RX2 33 "java/lang/IllegalArgumentException" ["java/lang/RuntimeException", "java/lang/Exception"]).filter goodWord, w ∈ wsX2_client := by decide +kernel
theorem xbX2_client_33 : ∀ w ∈ (vx_at0 RX2 33 "java/lang/IllegalArgumentException" ["java/lang/RuntimeException", "java/lang/Exception"]).filter (fun w => !goodWord w), w ∈ NGl := by decide +kernel
theorem xcX2_client_33 : ∀ w ∈ Cond.classLink RX2 31 "java/lang/IllegalArgumentException" :: Cond.initialized "java/lang/IllegalArgumentException" :: vx_at0 RX2 33 "java/lang/IllegalArgumentException" ["java/lang/RuntimeException", "java/lang/Exception"], vx_ot w = true := by decide +kernel
set_option maxHeartbeats 4000000 in
set_option maxRecDepth 100000 in
theorem kX2_client (l : Launch) (D : va_G) (k : Nat → ClassId) (d : Nat) (cq : Nat → Nat) (rq : Nat → Nat) (zz : Nat) (ck : Int64) (hd : Int32) (po st : Int64) (sl le : Int32) (th co bu : Nat → Int32) (tg : Nat → Int64) (wa se : Nat → Int32) (ld : Nat → Nat → Int64) (ow wr fi sz : Nat → Int32) (dl : Nat → Int64) (wt bl sh so : Nat → Int32) (tn sn un : Nat) (x : Int32) (y : Int32) (z : Int32) (hth : ∀ i, th i = 0 ∨ th i = 1) (hl0 : l.stackTraces = false) : XV l yX2_client wsX2_client ({ frames := 6, cells := 1, slots := 6, locals := 89 } : Room) D k (DkW d (cq 0) (rq 0) ck hd po st sl le ++ (ClW cq k th co bu tg wa se ld ++ (RqW rq k ow wr fi sz dl wt bl sh so tn sn un))) zz [.ref d, .int x, .int y, .int z] (fun w9 => ∃ j, j < 8 ∧ x = nI j ∧ inw y (nI 1) (nI 12) ∧ inw z (nI 1) (nI 1000) ∧ w9 = DkW d (cq 0) (rq 0) ck hd po st sl le ++ (ClW cq k (if th j = 0 then upd th j (nI 1) else th) (upd co j (nI 27720 / y)) (upd bu j z) (if th j = 0 then vp_updL tg j st else tg) wa se ld ++ (RqW rq k ow wr fi sz dl wt bl sh so tn sn un))) (fun E w9 => E = IAE ∧ w9 = DkW d (cq 0) (rq 0) ck hd po st sl le ++ (ClW cq k th co bu tg wa se ld ++ (RqW rq k ow wr fi sz dl wt bl sh so tn sn un)) ∧ ¬ (inw x (nI 0) (nI 7) ∧ inw y (nI 1) (nI 12) ∧ inw z (nI 1) (nI 1000))) 1 6 := by
  refine bodyOfX (Qc := fun A => QV D k (fun w9 => ∃ j, j < 8 ∧ x = nI j ∧ inw y (nI 1) (nI 12) ∧ inw z (nI 1) (nI 1000) ∧ w9 = DkW d (cq 0) (rq 0) ck hd po st sl le ++ (ClW cq k (if th j = 0 then upd th j (nI 1) else th) (upd co j (nI 27720 / y)) (upd bu j z) (if th j = 0 then vp_updL tg j st else tg) wa se ld ++ (RqW rq k ow wr fi sz dl wt bl sh so tn sn un))) A) (XC := fun A => QX D k (fun E w9 => E = IAE ∧ w9 = DkW d (cq 0) (rq 0) ck hd po st sl le ++ (ClW cq k th co bu tg wa se ld ++ (RqW rq k ow wr fi sz dl wt bl sh so tn sn un)) ∧ ¬ (inw x (nI 0) (nI 7) ∧ inw y (nI 1) (nI 12) ∧ inw z (nI 1) (nI 1000))) A) (cc := cX2_client) (maxL := 4) (ret := none) (by decide) rfl (Nat.le_of_ble_eq_true rfl) ?_
  intro p e s m below meth c A ls hc htab hZ hA hK hP hD hS hl
  obtain ⟨hx, hb, hml, hr, hts, hown, hlocks, hin⟩ := (show _ from hc)
  have hl : lv_has ls 4 [(0, .ref d), (1, .int x), (2, .int y), (3, .int z)] := hl
  refine lv_iload_n hx hb dX2_client_0 rfl (lv_at hl 1 rfl) ?_
  refine lv_iconst (v := nI 0) hx hb dX2_client_1 (by decide) ?_
  refine lv_bipush (v := nI 7) hx hb dX2_client_2 (by decide) ?_
  refine goSI hc (kX2_isWithin l D k s.heap.size x (nI 0) (nI 7)) (va_cwS 3 hts gX2_client_X2_isWithin rfl rfl rfl (by decide +kernel) ⟨(Nat.le_of_ble_eq_true rfl), (Nat.le_of_ble_eq_true rfl)⟩) hP hD hK hS hA rfl hl.1 rfl (Nat.le_of_ble_eq_true rfl) dX2_client_4 (Nat.le_of_ble_eq_true rfl) (Nat.le_of_ble_eq_true rfl) (fun r9 B9 H locs hq hP hD hS => ?_)
  obtain ⟨hr9, -⟩ := hq
  subst hr9
  have hP : va_P D vwCl (DkW d (cq 0) (rq 0) ck hd po st sl le ++ (ClW cq k th co bu tg wa se ld ++ (RqW rq k ow wr fi sz dl wt bl sh so tn sn un))) H := hP
  have hD : va_D A (DkW d (cq 0) (rq 0) ck hd po st sl le ++ (ClW cq k th co bu tg wa se ld ++ (RqW rq k ow wr fi sz dl wt bl sh so tn sn un))) := hD
  refine lv_if_eq (tgt := 31) hx hb dX2_client_7 (by decide) (fun c1 => ?_) (fun c1 => ?_)
  · exact thr (E := "java/lang/IllegalArgumentException") (names := ["java/lang/RuntimeException", "java/lang/Exception"]) hc htab hl0 hZ hK hP hD hS (by decide +kernel) (by decide +kernel) mwX2_client_0 mwX2_client_1 xaX2_client_33 xbX2_client_33 xcX2_client_33 hl.1 dX2_client_31 dX2_client_34 dX2_client_35 dX2_client_38 (Nat.le_of_ble_eq_true rfl) (Nat.le_of_ble_eq_true rfl) (Nat.le_of_ble_eq_true rfl) (Nat.le_of_ble_eq_true rfl) (⟨rfl, rfl, fun h => bI_0 c1 h.1⟩) (Nat.le_of_ble_eq_true rfl) (Nat.le_of_ble_eq_true rfl)
  · refine lv_iload_n hx hb dX2_client_10 rfl (lv_at hl 2 rfl) ?_
    refine lv_iconst (v := nI 1) hx hb dX2_client_11 (by decide) ?_
    refine lv_bipush (v := nI 12) hx hb dX2_client_12 (by decide) ?_
    refine goSI hc (kX2_isWithin l D k H.size y (nI 1) (nI 12)) (va_cwS 3 hts gX2_client_X2_isWithin rfl rfl rfl (by decide +kernel) ⟨(Nat.le_of_ble_eq_true rfl), (Nat.le_of_ble_eq_true rfl)⟩) hP hD hK hS hA rfl hl.1 rfl (Nat.le_of_ble_eq_true rfl) dX2_client_14 (Nat.le_of_ble_eq_true rfl) (Nat.le_of_ble_eq_true rfl) (fun r9 B9 H locs hq hP hD hS => ?_)
    obtain ⟨hr9, -⟩ := hq
    subst hr9
    have hP : va_P D vwCl (DkW d (cq 0) (rq 0) ck hd po st sl le ++ (ClW cq k th co bu tg wa se ld ++ (RqW rq k ow wr fi sz dl wt bl sh so tn sn un))) H := hP
    have hD : va_D A (DkW d (cq 0) (rq 0) ck hd po st sl le ++ (ClW cq k th co bu tg wa se ld ++ (RqW rq k ow wr fi sz dl wt bl sh so tn sn un))) := hD
    refine lv_if_eq (tgt := 31) hx hb dX2_client_17 (by decide) (fun c2 => ?_) (fun c2 => ?_)
    · exact thr (E := "java/lang/IllegalArgumentException") (names := ["java/lang/RuntimeException", "java/lang/Exception"]) hc htab hl0 hZ hK hP hD hS (by decide +kernel) (by decide +kernel) mwX2_client_0 mwX2_client_1 xaX2_client_33 xbX2_client_33 xcX2_client_33 hl.1 dX2_client_31 dX2_client_34 dX2_client_35 dX2_client_38 (Nat.le_of_ble_eq_true rfl) (Nat.le_of_ble_eq_true rfl) (Nat.le_of_ble_eq_true rfl) (Nat.le_of_ble_eq_true rfl) (⟨rfl, rfl, fun h => bI_0 c2 h.2.1⟩) (Nat.le_of_ble_eq_true rfl) (Nat.le_of_ble_eq_true rfl)
    · refine lv_iload_n hx hb dX2_client_20 rfl (lv_at hl 3 rfl) ?_
      refine lv_iconst (v := nI 1) hx hb dX2_client_21 (by decide) ?_
      refine lv_sipush (v := nI 1000) hx hb dX2_client_22 (by decide) ?_
      refine goSI hc (kX2_isWithin l D k H.size z (nI 1) (nI 1000)) (va_cwS 3 hts gX2_client_X2_isWithin rfl rfl rfl (by decide +kernel) ⟨(Nat.le_of_ble_eq_true rfl), (Nat.le_of_ble_eq_true rfl)⟩) hP hD hK hS hA rfl hl.1 rfl (Nat.le_of_ble_eq_true rfl) dX2_client_25 (Nat.le_of_ble_eq_true rfl) (Nat.le_of_ble_eq_true rfl) (fun r9 B9 H locs hq hP hD hS => ?_)
      obtain ⟨hr9, -⟩ := hq
      subst hr9
      have hP : va_P D vwCl (DkW d (cq 0) (rq 0) ck hd po st sl le ++ (ClW cq k th co bu tg wa se ld ++ (RqW rq k ow wr fi sz dl wt bl sh so tn sn un))) H := hP
      have hD : va_D A (DkW d (cq 0) (rq 0) ck hd po st sl le ++ (ClW cq k th co bu tg wa se ld ++ (RqW rq k ow wr fi sz dl wt bl sh so tn sn un))) := hD
      refine lv_if_ne (tgt := 39) hx hb dX2_client_28 (by decide) (fun c3 => ?_) (fun c3 => ?_)
      · have hi3 := bI_1 c3
        have hi2 := bI_1 c2
        obtain ⟨j, hj, rfl⟩ := ofW (bI_1 c1) (by decide)
        obtain ⟨v, hv1, hv2, rfl⟩ := ofWd hi2 (by decide) (by decide)
        refine lv_aload_n hx hb dX2_client_39 rfl (lv_at hl 0 rfl) ?_
        refine va_get (D := D) (ci := 2) (v := .ref (cq 0)) (C := RX2) (T := TX2) (N := 8) hx hb hts iwX2_client_X2 hown hK hP 0 rfl rfl 0 (by decide) (hts (Cond.fieldLink RX2 10 "ShareDisk" "clients" "LShareDisk$Clients;") mwX2_client_2) (fun _ h9 => h9) rfl dX2_client_40 ?_
        refine lv_iload_n hx hb dX2_client_43 rfl (lv_at hl 1 rfl) ?_
        refine goVI hc (kX0_isThere l D k cq H.size th co bu tg wa se ld j (by omega) (hth)) (cwV 1 hts gX2_client_X0_isThere rfl rfl rfl (by decide +kernel) ⟨(Nat.le_of_ble_eq_true rfl), (Nat.le_of_ble_eq_true rfl)⟩) hP hD hK hS hA (ci := 0) (q0 := 0) rfl rfl rfl hl.1 rfl (Nat.le_of_ble_eq_true rfl) dX2_client_44 (Nat.le_of_ble_eq_true rfl) (Nat.le_of_ble_eq_true rfl) (fun r9 B9 H locs hq hP hD hS => ?_)
        obtain ⟨hr9, rfl⟩ := hq
        subst hr9
        have hP : va_P D vwCl (DkW d (cq 0) (rq 0) ck hd po st sl le ++ (ClW cq k th co bu tg wa se ld ++ (RqW rq k ow wr fi sz dl wt bl sh so tn sn un))) H := hP
        have hD : va_D A (DkW d (cq 0) (rq 0) ck hd po st sl le ++ (ClW cq k th co bu tg wa se ld ++ (RqW rq k ow wr fi sz dl wt bl sh so tn sn un))) := hD
        refine lv_if_ne (tgt := 62) hx hb dX2_client_47 (by decide) (fun c4 => ?_) (fun c4 => ?_)
        · refine lv_aload_n hx hb dX2_client_62 rfl (lv_at hl 0 rfl) ?_
          refine va_get (D := D) (ci := 2) (v := .ref (cq 0)) (C := RX2) (T := TX2) (N := 8) hx hb hts iwX2_client_X2 hown hK hP 0 rfl rfl 0 (by decide) (hts (Cond.fieldLink RX2 10 "ShareDisk" "clients" "LShareDisk$Clients;") mwX2_client_2) (fun _ h9 => h9) rfl dX2_client_63 ?_
          refine lv_iload_n hx hb dX2_client_66 rfl (lv_at hl 1 rfl) ?_
          refine lv_sipush (v := nI 27720) hx hb dX2_client_67 (by decide) ?_
          refine lv_iload_n hx hb dX2_client_70 rfl (lv_at hl 2 rfl) ?_
          refine lv_idiv hx hb dX2_client_71 (nI_ne0 (by omega) (by omega)) ?_
          refine lv_iload_n hx hb dX2_client_72 rfl (lv_at hl 3 rfl) ?_
          refine goVV hc (kX0_setShare l D k cq H.size th co bu tg wa se ld j ((nI 27720) / (nI v)) z (by omega)) (cwV 3 hts gX2_client_X0_setShare rfl rfl rfl (by decide +kernel) ⟨(Nat.le_of_ble_eq_true rfl), (Nat.le_of_ble_eq_true rfl)⟩) hP hD hK hS hA (ci := 0) (q0 := 0) rfl rfl rfl hl.1 rfl (Nat.le_of_ble_eq_true rfl) dX2_client_73 (Nat.le_of_ble_eq_true rfl) (Nat.le_of_ble_eq_true rfl) (fun B9 H locs hq hP hD hS => ?_)
          subst hq
          have hP : va_P D vwCl (DkW d (cq 0) (rq 0) ck hd po st sl le ++ (ClW cq k th (upd co j ((nI 27720) / (nI v))) (upd bu j z) tg wa se ld ++ (RqW rq k ow wr fi sz dl wt bl sh so tn sn un))) H := hP
          have hD : va_D A (DkW d (cq 0) (rq 0) ck hd po st sl le ++ (ClW cq k th (upd co j ((nI 27720) / (nI v))) (upd bu j z) tg wa se ld ++ (RqW rq k ow wr fi sz dl wt bl sh so tn sn un))) := hD
          exact retVX hc dX2_client_76 hK hP hD hS (⟨j, by omega, rfl, hi2, hi3, by rw [if_neg c4, if_neg c4]⟩) (Nat.le_of_ble_eq_true rfl) (Nat.le_of_ble_eq_true rfl)
        · refine lv_aload_n hx hb dX2_client_50 rfl (lv_at hl 0 rfl) ?_
          refine va_get (D := D) (ci := 2) (v := .ref (cq 0)) (C := RX2) (T := TX2) (N := 8) hx hb hts iwX2_client_X2 hown hK hP 0 rfl rfl 0 (by decide) (hts (Cond.fieldLink RX2 10 "ShareDisk" "clients" "LShareDisk$Clients;") mwX2_client_2) (fun _ h9 => h9) rfl dX2_client_51 ?_
          refine lv_iload_n hx hb dX2_client_54 rfl (lv_at hl 1 rfl) ?_
          refine lv_aload_n hx hb dX2_client_55 rfl (lv_at hl 0 rfl) ?_
          refine va_get (D := D) (ci := 2) (v := .long st) (C := RX2) (T := TX2) (N := 8) hx hb hts iwX2_client_X2 hown hK hP 0 rfl rfl 5 (by decide) (hts (Cond.fieldLink RX2 38 "ShareDisk" "systemTag" "J") mwX2_client_3) (fun _ h9 => h9) rfl dX2_client_56 ?_
          refine goVV hc (kX0_enter l D k cq H.size th co bu tg wa se ld j st (by omega)) (cwV 2 hts gX2_client_X0_enter rfl rfl rfl (by decide +kernel) ⟨(Nat.le_of_ble_eq_true rfl), (Nat.le_of_ble_eq_true rfl)⟩) hP hD hK hS hA (ci := 0) (q0 := 0) rfl rfl rfl hl.1 rfl (Nat.le_of_ble_eq_true rfl) dX2_client_59 (Nat.le_of_ble_eq_true rfl) (Nat.le_of_ble_eq_true rfl) (fun B9 H locs hq hP hD hS => ?_)
          subst hq
          have hP : va_P D vwCl (DkW d (cq 0) (rq 0) ck hd po st sl le ++ (ClW cq k (upd th j (nI 1)) co bu (vp_updL tg j st) wa se ld ++ (RqW rq k ow wr fi sz dl wt bl sh so tn sn un))) H := hP
          have hD : va_D A (DkW d (cq 0) (rq 0) ck hd po st sl le ++ (ClW cq k (upd th j (nI 1)) co bu (vp_updL tg j st) wa se ld ++ (RqW rq k ow wr fi sz dl wt bl sh so tn sn un))) := hD
          refine lv_aload_n hx hb dX2_client_62 rfl (lv_at hl 0 rfl) ?_
          refine va_get (D := D) (ci := 2) (v := .ref (cq 0)) (C := RX2) (T := TX2) (N := 8) hx hb hts iwX2_client_X2 hown hK hP 0 rfl rfl 0 (by decide) (hts (Cond.fieldLink RX2 10 "ShareDisk" "clients" "LShareDisk$Clients;") mwX2_client_2) (fun _ h9 => h9) rfl dX2_client_63 ?_
          refine lv_iload_n hx hb dX2_client_66 rfl (lv_at hl 1 rfl) ?_
          refine lv_sipush (v := nI 27720) hx hb dX2_client_67 (by decide) ?_
          refine lv_iload_n hx hb dX2_client_70 rfl (lv_at hl 2 rfl) ?_
          refine lv_idiv hx hb dX2_client_71 (nI_ne0 (by omega) (by omega)) ?_
          refine lv_iload_n hx hb dX2_client_72 rfl (lv_at hl 3 rfl) ?_
          refine goVV hc (kX0_setShare l D k cq H.size (upd th j (nI 1)) co bu (vp_updL tg j st) wa se ld j ((nI 27720) / (nI v)) z (by omega)) (cwV 3 hts gX2_client_X0_setShare rfl rfl rfl (by decide +kernel) ⟨(Nat.le_of_ble_eq_true rfl), (Nat.le_of_ble_eq_true rfl)⟩) hP hD hK hS hA (ci := 0) (q0 := 0) rfl rfl rfl hl.1 rfl (Nat.le_of_ble_eq_true rfl) dX2_client_73 (Nat.le_of_ble_eq_true rfl) (Nat.le_of_ble_eq_true rfl) (fun B9 H locs hq hP hD hS => ?_)
          subst hq
          have hP : va_P D vwCl (DkW d (cq 0) (rq 0) ck hd po st sl le ++ (ClW cq k (upd th j (nI 1)) (upd co j ((nI 27720) / (nI v))) (upd bu j z) (vp_updL tg j st) wa se ld ++ (RqW rq k ow wr fi sz dl wt bl sh so tn sn un))) H := hP
          have hD : va_D A (DkW d (cq 0) (rq 0) ck hd po st sl le ++ (ClW cq k (upd th j (nI 1)) (upd co j ((nI 27720) / (nI v))) (upd bu j z) (vp_updL tg j st) wa se ld ++ (RqW rq k ow wr fi sz dl wt bl sh so tn sn un))) := hD
          exact retVX hc dX2_client_76 hK hP hD hS (⟨j, by omega, rfl, hi2, hi3, by rw [if_pos c4, if_pos c4]⟩) (Nat.le_of_ble_eq_true rfl) (Nat.le_of_ble_eq_true rfl)
      · exact thr (E := "java/lang/IllegalArgumentException") (names := ["java/lang/RuntimeException", "java/lang/Exception"]) hc htab hl0 hZ hK hP hD hS (by decide +kernel) (by decide +kernel) mwX2_client_0 mwX2_client_1 xaX2_client_33 xbX2_client_33 xcX2_client_33 hl.1 dX2_client_31 dX2_client_34 dX2_client_35 dX2_client_38 (Nat.le_of_ble_eq_true rfl) (Nat.le_of_ble_eq_true rfl) (Nat.le_of_ble_eq_true rfl) (Nat.le_of_ble_eq_true rfl) (⟨rfl, rfl, fun h => bI_0 c3 h.2.2⟩) (Nat.le_of_ble_eq_true rfl) (Nat.le_of_ble_eq_true rfl)
theorem mwX2_gone_0 : Cond.fieldLink RX2 10 "ShareDisk" "clients" "LShareDisk$Clients;" ∈ wsX2_gone := by decide +kernel
theorem mwX2_gone_1 : Cond.fieldLink RX2 23 "ShareDisk" "sliceOwner" "I" ∈ wsX2_gone := by decide +kernel
theorem mwX2_gone_2 : Cond.classLink RX2 58 "java/lang/IllegalStateException" ∈ wsX2_gone := by decide +kernel
theorem mwX2_gone_3 : Cond.initialized "java/lang/IllegalStateException" ∈ wsX2_gone := by decide +kernel
theorem iwX2_gone_X2 : ∀ w ∈ wsX20, w ∈ wsX2_gone := by decide +kernel
theorem xaX2_gone_60 : ∀ w ∈ (vx_at0 RX2 60 "java/lang/IllegalStateException" ["java/lang/RuntimeException", "java/lang/Exception"]).filter goodWord, w ∈ wsX2_gone := by decide +kernel
theorem xbX2_gone_60 : ∀ w ∈ (vx_at0 RX2 60 "java/lang/IllegalStateException" ["java/lang/RuntimeException", "java/lang/Exception"]).filter (fun w => !goodWord w), w ∈ NGl := by decide +kernel
theorem xcX2_gone_60 : ∀ w ∈ Cond.classLink RX2 58 "java/lang/IllegalStateException" :: Cond.initialized "java/lang/IllegalStateException" :: vx_at0 RX2 60 "java/lang/IllegalStateException" ["java/lang/RuntimeException", "java/lang/Exception"], vx_ot w = true := by decide +kernel
set_option maxHeartbeats 4000000 in
set_option maxRecDepth 100000 in
theorem kX2_gone (l : Launch) (D : va_G) (k : Nat → ClassId) (d : Nat) (cq : Nat → Nat) (rq : Nat → Nat) (zz : Nat) (ck : Int64) (hd : Int32) (po st : Int64) (sl le : Int32) (th co bu : Nat → Int32) (tg : Nat → Int64) (wa se : Nat → Int32) (ld : Nat → Nat → Int64) (ow wr fi sz : Nat → Int32) (dl : Nat → Int64) (wt bl sh so : Nat → Int32) (tn sn un : Nat) (x : Int32) (hth : ∀ i, th i = 0 ∨ th i = 1) (hl0 : l.stackTraces = false) : XV l yX2_gone wsX2_gone ({ frames := 7, cells := 2, slots := 12, locals := 110 } : Room) D k (DkW d (cq 0) (rq 0) ck hd po st sl le ++ (ClW cq k th co bu tg wa se ld ++ (RqW rq k ow wr fi sz dl wt bl sh so tn sn un))) zz [.ref d, .int x] (fun w9 => ∃ j, j < 8 ∧ x = nI j ∧ ¬ th j = 0 ∧ wa j ≤ 0 ∧ w9 = DkW d (cq 0) (rq 0) ck hd po st (if sl = nI j then (-1) else sl) (if sl = nI j then nI 0 else le) ++ (ClW cq k (upd th j (nI 0)) co bu tg wa (upd se j (nI 0)) ld ++ (RqW rq k ow wr fi sz dl wt bl sh so tn sn un))) (fun E w9 => w9 = DkW d (cq 0) (rq 0) ck hd po st sl le ++ (ClW cq k th co bu tg wa se ld ++ (RqW rq k ow wr fi sz dl wt bl sh so tn sn un)) ∧ ((E = IAE ∧ ¬ isT th x) ∨ (E = ISE ∧ ∃ j, j < 8 ∧ x = nI j ∧ ¬ th j = 0 ∧ ¬ wa j ≤ 0))) 2 12 := by
  refine bodyOfX (Qc := fun A => QV D k (fun w9 => ∃ j, j < 8 ∧ x = nI j ∧ ¬ th j = 0 ∧ wa j ≤ 0 ∧ w9 = DkW d (cq 0) (rq 0) ck hd po st (if sl = nI j then (-1) else sl) (if sl = nI j then nI 0 else le) ++ (ClW cq k (upd th j (nI 0)) co bu tg wa (upd se j (nI 0)) ld ++ (RqW rq k ow wr fi sz dl wt bl sh so tn sn un))) A) (XC := fun A => QX D k (fun E w9 => w9 = DkW d (cq 0) (rq 0) ck hd po st sl le ++ (ClW cq k th co bu tg wa se ld ++ (RqW rq k ow wr fi sz dl wt bl sh so tn sn un)) ∧ ((E = IAE ∧ ¬ isT th x) ∨ (E = ISE ∧ ∃ j, j < 8 ∧ x = nI j ∧ ¬ th j = 0 ∧ ¬ wa j ≤ 0))) A) (cc := cX2_gone) (maxL := 2) (ret := none) (by decide) rfl (Nat.le_of_ble_eq_true rfl) ?_
  intro p e s m below meth c A ls hc htab hZ hA hK hP hD hS hl
  obtain ⟨hx, hb, hml, hr, hts, hown, hlocks, hin⟩ := (show _ from hc)
  have hl : lv_has ls 2 [(0, .ref d), (1, .int x)] := hl
  refine lv_aload_n hx hb dX2_gone_0 rfl (lv_at hl 0 rfl) ?_
  refine lv_iload_n hx hb dX2_gone_1 rfl (lv_at hl 1 rfl) ?_
  refine goXV0 hc (kX2_requireThere l D k d cq rq s.heap.size ck hd po st sl le th co bu tg wa se ld ow wr fi sz dl wt bl sh so tn sn un x (hth) hl0) (cwV 1 hts gX2_gone_X2_requireThere rfl rfl rfl (by decide +kernel) ⟨(Nat.le_of_ble_eq_true rfl), (Nat.le_of_ble_eq_true rfl)⟩) hP hD hK hZ hS hA (ci := 2) (q0 := 0) rfl rfl rfl hl.1 rfl (Nat.le_of_ble_eq_true rfl) dX2_gone_2 (Nat.le_of_ble_eq_true rfl) (Nat.le_of_ble_eq_true rfl) (fun E ce q9 B9 H locs hq hP hD hS hce hcv hcc => ?_) (fun B9 H locs hq hP hD hS => ?_)
  · exact outX hc htab hK hP hD hS hce hcv hcc (⟨hq.2.1, Or.inl ⟨hq.1, hq.2.2⟩⟩) (Nat.le_of_ble_eq_true rfl) (Nat.le_of_ble_eq_true rfl)
  obtain ⟨rfl, hf9⟩ := hq
  have hP : va_P D vwCl (DkW d (cq 0) (rq 0) ck hd po st sl le ++ (ClW cq k th co bu tg wa se ld ++ (RqW rq k ow wr fi sz dl wt bl sh so tn sn un))) H := hP
  have hD : va_D A (DkW d (cq 0) (rq 0) ck hd po st sl le ++ (ClW cq k th co bu tg wa se ld ++ (RqW rq k ow wr fi sz dl wt bl sh so tn sn un))) := hD
  obtain ⟨j, hj, rfl, hthj⟩ := hf9
  refine lv_aload_n hx hb dX2_gone_5 rfl (lv_at hl 0 rfl) ?_
  refine va_get (D := D) (ci := 2) (v := .ref (cq 0)) (C := RX2) (T := TX2) (N := 8) hx hb hts iwX2_gone_X2 hown hK hP 0 rfl rfl 0 (by decide) (hts (Cond.fieldLink RX2 10 "ShareDisk" "clients" "LShareDisk$Clients;") mwX2_gone_0) (fun _ h9 => h9) rfl dX2_gone_6 ?_
  refine lv_iload_n hx hb dX2_gone_9 rfl (lv_at hl 1 rfl) ?_
  refine goVI hc (kX0_waitingOf l D k cq H.size th co bu tg wa se ld j (hj)) (cwV 1 hts gX2_gone_X0_waitingOf rfl rfl rfl (by decide +kernel) ⟨(Nat.le_of_ble_eq_true rfl), (Nat.le_of_ble_eq_true rfl)⟩) hP hD hK hS hA (ci := 0) (q0 := 0) rfl rfl rfl hl.1 rfl (Nat.le_of_ble_eq_true rfl) dX2_gone_10 (Nat.le_of_ble_eq_true rfl) (Nat.le_of_ble_eq_true rfl) (fun r9 B9 H locs hq hP hD hS => ?_)
  obtain ⟨hr9, rfl⟩ := hq
  subst hr9
  have hP : va_P D vwCl (DkW d (cq 0) (rq 0) ck hd po st sl le ++ (ClW cq k th co bu tg wa se ld ++ (RqW rq k ow wr fi sz dl wt bl sh so tn sn un))) H := hP
  have hD : va_D A (DkW d (cq 0) (rq 0) ck hd po st sl le ++ (ClW cq k th co bu tg wa se ld ++ (RqW rq k ow wr fi sz dl wt bl sh so tn sn un))) := hD
  refine lv_if_le (tgt := 24) hx hb dX2_gone_13 (by decide) (fun c2 => ?_) (fun c2 => ?_)
  · refine lv_aload_n hx hb dX2_gone_24 rfl (lv_at hl 0 rfl) ?_
    refine va_get (D := D) (ci := 2) (v := .ref (cq 0)) (C := RX2) (T := TX2) (N := 8) hx hb hts iwX2_gone_X2 hown hK hP 0 rfl rfl 0 (by decide) (hts (Cond.fieldLink RX2 10 "ShareDisk" "clients" "LShareDisk$Clients;") mwX2_gone_0) (fun _ h9 => h9) rfl dX2_gone_25 ?_
    refine lv_iload_n hx hb dX2_gone_28 rfl (lv_at hl 1 rfl) ?_
    refine goVV hc (kX0_leave l D k cq H.size th co bu tg wa se ld j (hj)) (cwV 1 hts gX2_gone_X0_leave rfl rfl rfl (by decide +kernel) ⟨(Nat.le_of_ble_eq_true rfl), (Nat.le_of_ble_eq_true rfl)⟩) hP hD hK hS hA (ci := 0) (q0 := 0) rfl rfl rfl hl.1 rfl (Nat.le_of_ble_eq_true rfl) dX2_gone_29 (Nat.le_of_ble_eq_true rfl) (Nat.le_of_ble_eq_true rfl) (fun B9 H locs hq hP hD hS => ?_)
    subst hq
    have hP : va_P D vwCl (DkW d (cq 0) (rq 0) ck hd po st sl le ++ (ClW cq k (upd th j (nI 0)) co bu tg wa (upd se j (nI 0)) ld ++ (RqW rq k ow wr fi sz dl wt bl sh so tn sn un))) H := hP
    have hD : va_D A (DkW d (cq 0) (rq 0) ck hd po st sl le ++ (ClW cq k (upd th j (nI 0)) co bu tg wa (upd se j (nI 0)) ld ++ (RqW rq k ow wr fi sz dl wt bl sh so tn sn un))) := hD
    refine lv_aload_n hx hb dX2_gone_32 rfl (lv_at hl 0 rfl) ?_
    refine va_get (D := D) (ci := 2) (v := .int sl) (C := RX2) (T := TX2) (N := 8) hx hb hts iwX2_gone_X2 hown hK hP 0 rfl rfl 6 (by decide) (hts (Cond.fieldLink RX2 23 "ShareDisk" "sliceOwner" "I") mwX2_gone_1) (fun _ h9 => h9) rfl dX2_gone_33 ?_
    refine lv_iload_n hx hb dX2_gone_36 rfl (lv_at hl 1 rfl) ?_
    refine lv_icmp_ne (tgt := 44) hx hb dX2_gone_37 (by decide) (fun c3 => ?_) (fun c3 => ?_)
    · exact retVX hc dX2_gone_44 hK hP hD hS (⟨j, hj, rfl, hthj, c2, by rw [if_neg c3, if_neg c3]⟩) (Nat.le_of_ble_eq_true rfl) (Nat.le_of_ble_eq_true rfl)
    · refine lv_aload_n hx hb dX2_gone_40 rfl (lv_at hl 0 rfl) ?_
      refine goVV0 hc (kX2_endSlice l D k d cq rq H.size ck hd po st sl le (upd th j (nI 0)) co bu tg wa (upd se j (nI 0)) ld ow wr fi sz dl wt bl sh so tn sn un) (cwV 0 hts gX2_gone_X2_endSlice rfl rfl rfl (by decide +kernel) ⟨(Nat.le_of_ble_eq_true rfl), (Nat.le_of_ble_eq_true rfl)⟩) hP hD hK hS hA (ci := 2) (q0 := 0) rfl rfl rfl hl.1 rfl (Nat.le_of_ble_eq_true rfl) dX2_gone_41 (Nat.le_of_ble_eq_true rfl) (Nat.le_of_ble_eq_true rfl) (fun B9 H locs hq hP hD hS => ?_)
      subst hq
      have hP : va_P D vwCl (DkW d (cq 0) (rq 0) ck hd po st (-1) (nI 0) ++ (ClW cq k (upd th j (nI 0)) co bu tg wa (upd se j (nI 0)) ld ++ (RqW rq k ow wr fi sz dl wt bl sh so tn sn un))) H := hP
      have hD : va_D A (DkW d (cq 0) (rq 0) ck hd po st (-1) (nI 0) ++ (ClW cq k (upd th j (nI 0)) co bu tg wa (upd se j (nI 0)) ld ++ (RqW rq k ow wr fi sz dl wt bl sh so tn sn un))) := hD
      exact retVX hc dX2_gone_44 hK hP hD hS (⟨j, hj, rfl, hthj, c2, by rw [if_pos c3, if_pos c3]⟩) (Nat.le_of_ble_eq_true rfl) (Nat.le_of_ble_eq_true rfl)
  · exact thr (E := "java/lang/IllegalStateException") (names := ["java/lang/RuntimeException", "java/lang/Exception"]) hc htab hl0 hZ hK hP hD hS (by decide +kernel) (by decide +kernel) mwX2_gone_2 mwX2_gone_3 xaX2_gone_60 xbX2_gone_60 xcX2_gone_60 hl.1 dX2_gone_16 dX2_gone_19 dX2_gone_20 dX2_gone_23 (Nat.le_of_ble_eq_true rfl) (Nat.le_of_ble_eq_true rfl) (Nat.le_of_ble_eq_true rfl) (Nat.le_of_ble_eq_true rfl) (⟨rfl, Or.inr ⟨rfl, j, hj, rfl, hthj, c2⟩⟩) (Nat.le_of_ble_eq_true rfl) (Nat.le_of_ble_eq_true rfl)
theorem mwX2_submit_0 : Cond.classLink RX2 31 "java/lang/IllegalArgumentException" ∈ wsX2_submit := by decide +kernel
theorem mwX2_submit_1 : Cond.initialized "java/lang/IllegalArgumentException" ∈ wsX2_submit := by decide +kernel
theorem mwX2_submit_2 : Cond.constant RX2 71 (1000000) ∈ wsX2_submit := by decide +kernel
theorem mwX2_submit_3 : Cond.fieldLink RX2 10 "ShareDisk" "clients" "LShareDisk$Clients;" ∈ wsX2_submit := by decide +kernel
theorem mwX2_submit_4 : Cond.fieldLink RX2 19 "ShareDisk" "requests" "LShareDisk$Requests;" ∈ wsX2_submit := by decide +kernel
theorem mwX2_submit_5 : Cond.fieldLink RX2 38 "ShareDisk" "systemTag" "J" ∈ wsX2_submit := by decide +kernel
theorem mwX2_submit_6 : Cond.fieldLink RX2 79 "ShareDisk" "clock" "J" ∈ wsX2_submit := by decide +kernel
theorem iwX2_submit_X2 : ∀ w ∈ wsX20, w ∈ wsX2_submit := by decide +kernel
theorem xaX2_submit_33 : ∀ w ∈ (vx_at0 RX2 33 "java/lang/IllegalArgumentException" ["java/lang/RuntimeException", "java/lang/Exception"]).filter goodWord, w ∈ wsX2_submit := by decide +kernel
theorem xbX2_submit_33 : ∀ w ∈ (vx_at0 RX2 33 "java/lang/IllegalArgumentException" ["java/lang/RuntimeException", "java/lang/Exception"]).filter (fun w => !goodWord w), w ∈ NGl := by decide +kernel
theorem xcX2_submit_33 : ∀ w ∈ Cond.classLink RX2 31 "java/lang/IllegalArgumentException" :: Cond.initialized "java/lang/IllegalArgumentException" :: vx_at0 RX2 33 "java/lang/IllegalArgumentException" ["java/lang/RuntimeException", "java/lang/Exception"], vx_ot w = true := by decide +kernel
set_option maxHeartbeats 4000000 in
set_option maxRecDepth 100000 in
theorem kX2_submit (l : Launch) (D : va_G) (k : Nat → ClassId) (d : Nat) (cq : Nat → Nat) (rq : Nat → Nat) (zz : Nat) (ck : Int64) (hd : Int32) (po st : Int64) (sl le : Int32) (th co bu : Nat → Int32) (tg : Nat → Int64) (wa se : Nat → Int32) (ld : Nat → Nat → Int64) (ow wr fi sz : Nat → Int32) (dl : Nat → Int64) (wt bl sh so : Nat → Int32) (tn sn un : Nat) (x : Int32) (w : Int32) (u : Int32) (v : Int32) (y : Int32) (hth : ∀ i, th i = 0 ∨ th i = 1) (htn : tn ≤ 500) (hw : w = 0 ∨ w = 1) (hl0 : l.stackTraces = false) : XI l yX2_submit wsX2_submit ({ frames := 7, cells := 2, slots := 12, locals := 110 } : Room) D k (DkW d (cq 0) (rq 0) ck hd po st sl le ++ (ClW cq k th co bu tg wa se ld ++ (RqW rq k ow wr fi sz dl wt bl sh so tn sn un))) zz [.ref d, .int x, .int w, .int u, .int v, .int y] (fun r9 w9 => ∃ j, j < 8 ∧ x = nI j ∧ ¬ th j = 0 ∧ (inw v (nI 1) (nI 64) ∧ inw u (nI 0) (nI 100000 - v)) ∧ inw y (nI 0) (nI 1000000) ∧ (((nI 64 ≤ wa j ∨ 500 ≤ tn) ∧ r9 = -1 ∧ w9 = DkW d (cq 0) (rq 0) ck hd po st sl le ++ (ClW cq k th co bu tg wa se ld ++ (RqW rq k ow wr fi sz dl wt bl sh so tn sn un))) ∨ (¬ nI 64 ≤ wa j ∧ tn < 500 ∧ r9 = nI tn ∧ w9 = DkW d (cq 0) (rq 0) ck hd po st sl le ++ (ClW cq k th co bu (if wa j = 0 then vp_updL tg j (mxL (tg j) st) else tg) (upd wa j (wa j + nI 1)) se (if wa j = 0 then fgL ld j 8 else ld) ++ (RqW rq k (upd ow tn (nI j)) (upd wr tn w) (upd fi tn u) (upd sz tn v) (vp_updL dl tn (ck + y.toInt64)) (upd wt tn (nI 1)) (adB (upd ow tn (nI j)) (upd wr tn w) (upd fi tn u) (upd sz tn v) (upd wt tn (nI 1)) bl tn tn) sh so (tn + 1) sn un))))) (fun E w9 => E = IAE ∧ w9 = DkW d (cq 0) (rq 0) ck hd po st sl le ++ (ClW cq k th co bu tg wa se ld ++ (RqW rq k ow wr fi sz dl wt bl sh so tn sn un)) ∧ ¬ (isT th x ∧ (inw v (nI 1) (nI 64) ∧ inw u (nI 0) (nI 100000 - v)) ∧ inw y (nI 0) (nI 1000000))) 2 12 := by
  refine bodyOfX (Qc := fun A => QI D k (fun r9 w9 => ∃ j, j < 8 ∧ x = nI j ∧ ¬ th j = 0 ∧ (inw v (nI 1) (nI 64) ∧ inw u (nI 0) (nI 100000 - v)) ∧ inw y (nI 0) (nI 1000000) ∧ (((nI 64 ≤ wa j ∨ 500 ≤ tn) ∧ r9 = -1 ∧ w9 = DkW d (cq 0) (rq 0) ck hd po st sl le ++ (ClW cq k th co bu tg wa se ld ++ (RqW rq k ow wr fi sz dl wt bl sh so tn sn un))) ∨ (¬ nI 64 ≤ wa j ∧ tn < 500 ∧ r9 = nI tn ∧ w9 = DkW d (cq 0) (rq 0) ck hd po st sl le ++ (ClW cq k th co bu (if wa j = 0 then vp_updL tg j (mxL (tg j) st) else tg) (upd wa j (wa j + nI 1)) se (if wa j = 0 then fgL ld j 8 else ld) ++ (RqW rq k (upd ow tn (nI j)) (upd wr tn w) (upd fi tn u) (upd sz tn v) (vp_updL dl tn (ck + y.toInt64)) (upd wt tn (nI 1)) (adB (upd ow tn (nI j)) (upd wr tn w) (upd fi tn u) (upd sz tn v) (upd wt tn (nI 1)) bl tn tn) sh so (tn + 1) sn un))))) A) (XC := fun A => QX D k (fun E w9 => E = IAE ∧ w9 = DkW d (cq 0) (rq 0) ck hd po st sl le ++ (ClW cq k th co bu tg wa se ld ++ (RqW rq k ow wr fi sz dl wt bl sh so tn sn un)) ∧ ¬ (isT th x ∧ (inw v (nI 1) (nI 64) ∧ inw u (nI 0) (nI 100000 - v)) ∧ inw y (nI 0) (nI 1000000))) A) (cc := cX2_submit) (maxL := 6) (ret := (some .int)) (by decide) rfl (Nat.le_of_ble_eq_true rfl) ?_
  intro p e s m below meth c A ls hc htab hZ hA hK hP hD hS hl
  obtain ⟨hx, hb, hml, hr, hts, hown, hlocks, hin⟩ := (show _ from hc)
  have hl : lv_has ls 6 [(0, .ref d), (1, .int x), (2, .int w), (3, .int u), (4, .int v), (5, .int y)] := hl
  refine lv_aload_n hx hb dX2_submit_0 rfl (lv_at hl 0 rfl) ?_
  refine lv_iload_n hx hb dX2_submit_1 rfl (lv_at hl 1 rfl) ?_
  refine goXV0 hc (kX2_requireThere l D k d cq rq s.heap.size ck hd po st sl le th co bu tg wa se ld ow wr fi sz dl wt bl sh so tn sn un x (hth) hl0) (cwV 1 hts gX2_submit_X2_requireThere rfl rfl rfl (by decide +kernel) ⟨(Nat.le_of_ble_eq_true rfl), (Nat.le_of_ble_eq_true rfl)⟩) hP hD hK hZ hS hA (ci := 2) (q0 := 0) rfl rfl rfl hl.1 rfl (Nat.le_of_ble_eq_true rfl) dX2_submit_2 (Nat.le_of_ble_eq_true rfl) (Nat.le_of_ble_eq_true rfl) (fun E ce q9 B9 H locs hq hP hD hS hce hcv hcc => ?_) (fun B9 H locs hq hP hD hS => ?_)
  · exact outX hc htab hK hP hD hS hce hcv hcc (⟨hq.1, hq.2.1, fun h => hq.2.2 h.1⟩) (Nat.le_of_ble_eq_true rfl) (Nat.le_of_ble_eq_true rfl)
  obtain ⟨rfl, hf9⟩ := hq
  have hP : va_P D vwCl (DkW d (cq 0) (rq 0) ck hd po st sl le ++ (ClW cq k th co bu tg wa se ld ++ (RqW rq k ow wr fi sz dl wt bl sh so tn sn un))) H := hP
  have hD : va_D A (DkW d (cq 0) (rq 0) ck hd po st sl le ++ (ClW cq k th co bu tg wa se ld ++ (RqW rq k ow wr fi sz dl wt bl sh so tn sn un))) := hD
  obtain ⟨j, hj, rfl, hthj⟩ := hf9
  refine lv_iload_n hx hb dX2_submit_5 rfl (lv_at hl 3 rfl) ?_
  refine lv_iload hx hb dX2_submit_6 (lv_at hl 4 rfl) ?_
  refine goSI hc (kX2_areOnDisk l D k H.size u v) (va_cwS 2 hts gX2_submit_X2_areOnDisk rfl rfl rfl (by decide +kernel) ⟨(Nat.le_of_ble_eq_true rfl), (Nat.le_of_ble_eq_true rfl)⟩) hP hD hK hS hA rfl hl.1 rfl (Nat.le_of_ble_eq_true rfl) dX2_submit_8 (Nat.le_of_ble_eq_true rfl) (Nat.le_of_ble_eq_true rfl) (fun r9 B9 H locs hq hP hD hS => ?_)
  obtain ⟨hr9, -⟩ := hq
  subst hr9
  have hP : va_P D vwCl (DkW d (cq 0) (rq 0) ck hd po st sl le ++ (ClW cq k th co bu tg wa se ld ++ (RqW rq k ow wr fi sz dl wt bl sh so tn sn un))) H := hP
  have hD : va_D A (DkW d (cq 0) (rq 0) ck hd po st sl le ++ (ClW cq k th co bu tg wa se ld ++ (RqW rq k ow wr fi sz dl wt bl sh so tn sn un))) := hD
  refine lv_if_eq (tgt := 25) hx hb dX2_submit_11 (by decide) (fun c2 => ?_) (fun c2 => ?_)
  · exact thr (E := "java/lang/IllegalArgumentException") (names := ["java/lang/RuntimeException", "java/lang/Exception"]) hc htab hl0 hZ hK hP hD hS (by decide +kernel) (by decide +kernel) mwX2_submit_0 mwX2_submit_1 xaX2_submit_33 xbX2_submit_33 xcX2_submit_33 hl.1 dX2_submit_25 dX2_submit_28 dX2_submit_29 dX2_submit_32 (Nat.le_of_ble_eq_true rfl) (Nat.le_of_ble_eq_true rfl) (Nat.le_of_ble_eq_true rfl) (Nat.le_of_ble_eq_true rfl) (⟨rfl, rfl, fun h => bI_0 c2 h.2.1⟩) (Nat.le_of_ble_eq_true rfl) (Nat.le_of_ble_eq_true rfl)
  · refine lv_iload hx hb dX2_submit_14 (lv_at hl 5 rfl) ?_
    refine lv_iconst (v := nI 0) hx hb dX2_submit_16 (by decide) ?_
    refine lv_ldc (v := nI 1000000) hx hb hown (hts (.constant RX2 71 (1000000)) mwX2_submit_2) dX2_submit_17 ?_
    refine goSI hc (kX2_isWithin l D k H.size y (nI 0) (nI 1000000)) (va_cwS 3 hts gX2_submit_X2_isWithin rfl rfl rfl (by decide +kernel) ⟨(Nat.le_of_ble_eq_true rfl), (Nat.le_of_ble_eq_true rfl)⟩) hP hD hK hS hA rfl hl.1 rfl (Nat.le_of_ble_eq_true rfl) dX2_submit_19 (Nat.le_of_ble_eq_true rfl) (Nat.le_of_ble_eq_true rfl) (fun r9 B9 H locs hq hP hD hS => ?_)
    obtain ⟨hr9, -⟩ := hq
    subst hr9
    have hP : va_P D vwCl (DkW d (cq 0) (rq 0) ck hd po st sl le ++ (ClW cq k th co bu tg wa se ld ++ (RqW rq k ow wr fi sz dl wt bl sh so tn sn un))) H := hP
    have hD : va_D A (DkW d (cq 0) (rq 0) ck hd po st sl le ++ (ClW cq k th co bu tg wa se ld ++ (RqW rq k ow wr fi sz dl wt bl sh so tn sn un))) := hD
    refine lv_if_ne (tgt := 33) hx hb dX2_submit_22 (by decide) (fun c3 => ?_) (fun c3 => ?_)
    · have hv9 := bI_1 c2
      have hy9 := bI_1 c3
      refine lv_aload_n hx hb dX2_submit_33 rfl (lv_at hl 0 rfl) ?_
      refine va_get (D := D) (ci := 2) (v := .ref (cq 0)) (C := RX2) (T := TX2) (N := 8) hx hb hts iwX2_submit_X2 hown hK hP 0 rfl rfl 0 (by decide) (hts (Cond.fieldLink RX2 10 "ShareDisk" "clients" "LShareDisk$Clients;") mwX2_submit_3) (fun _ h9 => h9) rfl dX2_submit_34 ?_
      refine lv_iload_n hx hb dX2_submit_37 rfl (lv_at hl 1 rfl) ?_
      refine goVI hc (kX0_waitingOf l D k cq H.size th co bu tg wa se ld j (hj)) (cwV 1 hts gX2_submit_X0_waitingOf rfl rfl rfl (by decide +kernel) ⟨(Nat.le_of_ble_eq_true rfl), (Nat.le_of_ble_eq_true rfl)⟩) hP hD hK hS hA (ci := 0) (q0 := 0) rfl rfl rfl hl.1 rfl (Nat.le_of_ble_eq_true rfl) dX2_submit_38 (Nat.le_of_ble_eq_true rfl) (Nat.le_of_ble_eq_true rfl) (fun r9 B9 H locs hq hP hD hS => ?_)
      obtain ⟨hr9, rfl⟩ := hq
      subst hr9
      have hP : va_P D vwCl (DkW d (cq 0) (rq 0) ck hd po st sl le ++ (ClW cq k th co bu tg wa se ld ++ (RqW rq k ow wr fi sz dl wt bl sh so tn sn un))) H := hP
      have hD : va_D A (DkW d (cq 0) (rq 0) ck hd po st sl le ++ (ClW cq k th co bu tg wa se ld ++ (RqW rq k ow wr fi sz dl wt bl sh so tn sn un))) := hD
      refine lv_bipush (v := nI 64) hx hb dX2_submit_41 (by decide) ?_
      refine lv_icmp_ge (tgt := 56) hx hb dX2_submit_43 (by decide) (fun c4 => ?_) (fun c4 => ?_)
      · refine lv_iconst (v := (-1)) hx hb dX2_submit_56 (by decide) ?_
        exact retIX hc dX2_submit_57 hK hP hD hS (⟨j, hj, rfl, hthj, hv9, hy9, Or.inl ⟨Or.inl c4, rfl, rfl⟩⟩) (Nat.le_of_ble_eq_true rfl) (Nat.le_of_ble_eq_true rfl)
      · refine lv_aload_n hx hb dX2_submit_46 rfl (lv_at hl 0 rfl) ?_
        refine va_get (D := D) (ci := 2) (v := .ref (rq 0)) (C := RX2) (T := TX2) (N := 8) hx hb hts iwX2_submit_X2 hown hK hP 0 rfl rfl 1 (by decide) (hts (Cond.fieldLink RX2 19 "ShareDisk" "requests" "LShareDisk$Requests;") mwX2_submit_4) (fun _ h9 => h9) rfl dX2_submit_47 ?_
        refine goVI2 hc (kX1_isFull l D k rq H.size ow wr fi sz dl wt bl sh so tn sn un (htn)) (cwV 0 hts gX2_submit_X1_isFull rfl rfl rfl (by decide +kernel) ⟨(Nat.le_of_ble_eq_true rfl), (Nat.le_of_ble_eq_true rfl)⟩) hP hD hK hS hA (ci := 1) (q0 := 0) rfl rfl rfl hl.1 rfl (Nat.le_of_ble_eq_true rfl) dX2_submit_50 (Nat.le_of_ble_eq_true rfl) (Nat.le_of_ble_eq_true rfl) (fun r9 B9 H locs hq hP hD hS => ?_)
        obtain ⟨hr9, rfl⟩ := hq
        subst hr9
        have hP : va_P D vwCl (DkW d (cq 0) (rq 0) ck hd po st sl le ++ (ClW cq k th co bu tg wa se ld ++ (RqW rq k ow wr fi sz dl wt bl sh so tn sn un))) H := hP
        have hD : va_D A (DkW d (cq 0) (rq 0) ck hd po st sl le ++ (ClW cq k th co bu tg wa se ld ++ (RqW rq k ow wr fi sz dl wt bl sh so tn sn un))) := hD
        refine lv_if_eq (tgt := 58) hx hb dX2_submit_53 (by decide) (fun c5 => ?_) (fun c5 => ?_)
        · refine lv_aload_n hx hb dX2_submit_58 rfl (lv_at hl 0 rfl) ?_
          refine va_get (D := D) (ci := 2) (v := .ref (cq 0)) (C := RX2) (T := TX2) (N := 8) hx hb hts iwX2_submit_X2 hown hK hP 0 rfl rfl 0 (by decide) (hts (Cond.fieldLink RX2 10 "ShareDisk" "clients" "LShareDisk$Clients;") mwX2_submit_3) (fun _ h9 => h9) rfl dX2_submit_59 ?_
          refine lv_iload_n hx hb dX2_submit_62 rfl (lv_at hl 1 rfl) ?_
          refine lv_aload_n hx hb dX2_submit_63 rfl (lv_at hl 0 rfl) ?_
          refine va_get (D := D) (ci := 2) (v := .long st) (C := RX2) (T := TX2) (N := 8) hx hb hts iwX2_submit_X2 hown hK hP 0 rfl rfl 5 (by decide) (hts (Cond.fieldLink RX2 38 "ShareDisk" "systemTag" "J") mwX2_submit_5) (fun _ h9 => h9) rfl dX2_submit_64 ?_
          refine goVV hc (kX0_noteRequest l D k cq H.size th co bu tg wa se ld j st (hj)) (cwV 2 hts gX2_submit_X0_noteRequest rfl rfl rfl (by decide +kernel) ⟨(Nat.le_of_ble_eq_true rfl), (Nat.le_of_ble_eq_true rfl)⟩) hP hD hK hS hA (ci := 0) (q0 := 0) rfl rfl rfl hl.1 rfl (Nat.le_of_ble_eq_true rfl) dX2_submit_67 (Nat.le_of_ble_eq_true rfl) (Nat.le_of_ble_eq_true rfl) (fun B9 H locs hq hP hD hS => ?_)
          subst hq
          have hP : va_P D vwCl (DkW d (cq 0) (rq 0) ck hd po st sl le ++ (ClW cq k th co bu (if wa j = 0 then vp_updL tg j (mxL (tg j) st) else tg) (upd wa j (wa j + nI 1)) se (if wa j = 0 then fgL ld j 8 else ld) ++ (RqW rq k ow wr fi sz dl wt bl sh so tn sn un))) H := hP
          have hD : va_D A (DkW d (cq 0) (rq 0) ck hd po st sl le ++ (ClW cq k th co bu (if wa j = 0 then vp_updL tg j (mxL (tg j) st) else tg) (upd wa j (wa j + nI 1)) se (if wa j = 0 then fgL ld j 8 else ld) ++ (RqW rq k ow wr fi sz dl wt bl sh so tn sn un))) := hD
          refine lv_aload_n hx hb dX2_submit_70 rfl (lv_at hl 0 rfl) ?_
          refine va_get (D := D) (ci := 2) (v := .ref (rq 0)) (C := RX2) (T := TX2) (N := 8) hx hb hts iwX2_submit_X2 hown hK hP 0 rfl rfl 1 (by decide) (hts (Cond.fieldLink RX2 19 "ShareDisk" "requests" "LShareDisk$Requests;") mwX2_submit_4) (fun _ h9 => h9) rfl dX2_submit_71 ?_
          refine lv_iload_n hx hb dX2_submit_74 rfl (lv_at hl 1 rfl) ?_
          refine lv_iload_n hx hb dX2_submit_75 rfl (lv_at hl 2 rfl) ?_
          refine lv_iload_n hx hb dX2_submit_76 rfl (lv_at hl 3 rfl) ?_
          refine lv_iload hx hb dX2_submit_77 (lv_at hl 4 rfl) ?_
          refine lv_aload_n hx hb dX2_submit_79 rfl (lv_at hl 0 rfl) ?_
          refine va_get (D := D) (ci := 2) (v := .long ck) (C := RX2) (T := TX2) (N := 8) hx hb hts iwX2_submit_X2 hown hK hP 0 rfl rfl 2 (by decide) (hts (Cond.fieldLink RX2 79 "ShareDisk" "clock" "J") mwX2_submit_6) (fun _ h9 => h9) rfl dX2_submit_80 ?_
          refine lv_iload hx hb dX2_submit_83 (lv_at hl 5 rfl) ?_
          refine lv_i2l (v := y.toInt64) hx hb dX2_submit_85 rfl ?_
          refine lv_ladd hx hb dX2_submit_86 ?_
          refine goVI2 hc (kX1_add l D k rq H.size ow wr fi sz dl wt bl sh so tn sn un j w u v (ck + y.toInt64) (by have := bI_0 c5; omega) (hw)) (cwV 5 hts gX2_submit_X1_add rfl rfl rfl (by decide +kernel) ⟨(Nat.le_of_ble_eq_true rfl), (Nat.le_of_ble_eq_true rfl)⟩) hP hD hK hS hA (ci := 1) (q0 := 0) rfl rfl rfl hl.1 rfl (Nat.le_of_ble_eq_true rfl) dX2_submit_87 (Nat.le_of_ble_eq_true rfl) (Nat.le_of_ble_eq_true rfl) (fun r9 B9 H locs hq hP hD hS => ?_)
          obtain ⟨hr9, rfl⟩ := hq
          subst hr9
          have hP : va_P D vwCl (DkW d (cq 0) (rq 0) ck hd po st sl le ++ (ClW cq k th co bu (if wa j = 0 then vp_updL tg j (mxL (tg j) st) else tg) (upd wa j (wa j + nI 1)) se (if wa j = 0 then fgL ld j 8 else ld) ++ (RqW rq k (upd ow tn (nI j)) (upd wr tn w) (upd fi tn u) (upd sz tn v) (vp_updL dl tn (ck + y.toInt64)) (upd wt tn (nI 1)) (adB (upd ow tn (nI j)) (upd wr tn w) (upd fi tn u) (upd sz tn v) (upd wt tn (nI 1)) bl tn tn) sh so (tn + 1) sn un))) H := hP
          have hD : va_D A (DkW d (cq 0) (rq 0) ck hd po st sl le ++ (ClW cq k th co bu (if wa j = 0 then vp_updL tg j (mxL (tg j) st) else tg) (upd wa j (wa j + nI 1)) se (if wa j = 0 then fgL ld j 8 else ld) ++ (RqW rq k (upd ow tn (nI j)) (upd wr tn w) (upd fi tn u) (upd sz tn v) (vp_updL dl tn (ck + y.toInt64)) (upd wt tn (nI 1)) (adB (upd ow tn (nI j)) (upd wr tn w) (upd fi tn u) (upd sz tn v) (upd wt tn (nI 1)) bl tn tn) sh so (tn + 1) sn un))) := hD
          exact retIX hc dX2_submit_90 hK hP hD hS (⟨j, hj, rfl, hthj, hv9, hy9, Or.inr ⟨c4, by have := bI_0 c5; omega, rfl, rfl⟩⟩) (Nat.le_of_ble_eq_true rfl) (Nat.le_of_ble_eq_true rfl)
        · refine lv_iconst (v := (-1)) hx hb dX2_submit_56 (by decide) ?_
          exact retIX hc dX2_submit_57 hK hP hD hS (⟨j, hj, rfl, hthj, hv9, hy9, Or.inl ⟨Or.inr (bI_1 c5), rfl, rfl⟩⟩) (Nat.le_of_ble_eq_true rfl) (Nat.le_of_ble_eq_true rfl)
    · exact thr (E := "java/lang/IllegalArgumentException") (names := ["java/lang/RuntimeException", "java/lang/Exception"]) hc htab hl0 hZ hK hP hD hS (by decide +kernel) (by decide +kernel) mwX2_submit_0 mwX2_submit_1 xaX2_submit_33 xbX2_submit_33 xcX2_submit_33 hl.1 dX2_submit_25 dX2_submit_28 dX2_submit_29 dX2_submit_32 (Nat.le_of_ble_eq_true rfl) (Nat.le_of_ble_eq_true rfl) (Nat.le_of_ble_eq_true rfl) (Nat.le_of_ble_eq_true rfl) (⟨rfl, rfl, fun h => bI_0 c3 h.2.2⟩) (Nat.le_of_ble_eq_true rfl) (Nat.le_of_ble_eq_true rfl)
theorem mwX2_pass_0 : Cond.constant RX2 71 (1000000) ∈ wsX2_pass := by decide +kernel
theorem mwX2_pass_1 : Cond.fieldLink RX2 79 "ShareDisk" "clock" "J" ∈ wsX2_pass := by decide +kernel
theorem mwX2_pass_2 : Cond.classLink RX2 31 "java/lang/IllegalArgumentException" ∈ wsX2_pass := by decide +kernel
theorem mwX2_pass_3 : Cond.initialized "java/lang/IllegalArgumentException" ∈ wsX2_pass := by decide +kernel
theorem iwX2_pass_X2 : ∀ w ∈ wsX20, w ∈ wsX2_pass := by decide +kernel
theorem xaX2_pass_33 : ∀ w ∈ (vx_at0 RX2 33 "java/lang/IllegalArgumentException" ["java/lang/RuntimeException", "java/lang/Exception"]).filter goodWord, w ∈ wsX2_pass := by decide +kernel
theorem xbX2_pass_33 : ∀ w ∈ (vx_at0 RX2 33 "java/lang/IllegalArgumentException" ["java/lang/RuntimeException", "java/lang/Exception"]).filter (fun w => !goodWord w), w ∈ NGl := by decide +kernel
theorem xcX2_pass_33 : ∀ w ∈ Cond.classLink RX2 31 "java/lang/IllegalArgumentException" :: Cond.initialized "java/lang/IllegalArgumentException" :: vx_at0 RX2 33 "java/lang/IllegalArgumentException" ["java/lang/RuntimeException", "java/lang/Exception"], vx_ot w = true := by decide +kernel
set_option maxHeartbeats 4000000 in
set_option maxRecDepth 100000 in
theorem kX2_pass (l : Launch) (D : va_G) (k : Nat → ClassId) (d : Nat) (cq : Nat → Nat) (rq : Nat → Nat) (zz : Nat) (ck : Int64) (hd : Int32) (po st : Int64) (sl le : Int32) (th co bu : Nat → Int32) (tg : Nat → Int64) (wa se : Nat → Int32) (ld : Nat → Nat → Int64) (ow wr fi sz : Nat → Int32) (dl : Nat → Int64) (wt bl sh so : Nat → Int32) (tn sn un : Nat) (x : Int32) (hl0 : l.stackTraces = false) : XL l yX2_pass wsX2_pass ({ frames := 6, cells := 1, slots := 6, locals := 89 } : Room) D k (DkW d (cq 0) (rq 0) ck hd po st sl le ++ (ClW cq k th co bu tg wa se ld ++ (RqW rq k ow wr fi sz dl wt bl sh so tn sn un))) zz [.ref d, .int x] (fun r9 w9 => inw x (nI 0) (nI 1000000) ∧ r9 = ck + x.toInt64 ∧ w9 = DkW d (cq 0) (rq 0) (ck + x.toInt64) hd po st sl le ++ (ClW cq k th co bu tg wa se ld ++ (RqW rq k ow wr fi sz dl wt bl sh so tn sn un))) (fun E w9 => E = IAE ∧ w9 = DkW d (cq 0) (rq 0) ck hd po st sl le ++ (ClW cq k th co bu tg wa se ld ++ (RqW rq k ow wr fi sz dl wt bl sh so tn sn un)) ∧ ¬ inw x (nI 0) (nI 1000000)) 1 6 := by
  refine bodyOfX (Qc := fun A => QL D k (fun r9 w9 => inw x (nI 0) (nI 1000000) ∧ r9 = ck + x.toInt64 ∧ w9 = DkW d (cq 0) (rq 0) (ck + x.toInt64) hd po st sl le ++ (ClW cq k th co bu tg wa se ld ++ (RqW rq k ow wr fi sz dl wt bl sh so tn sn un))) A) (XC := fun A => QX D k (fun E w9 => E = IAE ∧ w9 = DkW d (cq 0) (rq 0) ck hd po st sl le ++ (ClW cq k th co bu tg wa se ld ++ (RqW rq k ow wr fi sz dl wt bl sh so tn sn un)) ∧ ¬ inw x (nI 0) (nI 1000000)) A) (cc := cX2_pass) (maxL := 2) (ret := (some .long)) (by decide) rfl (Nat.le_of_ble_eq_true rfl) ?_
  intro p e s m below meth c A ls hc htab hZ hA hK hP hD hS hl
  obtain ⟨hx, hb, hml, hr, hts, hown, hlocks, hin⟩ := (show _ from hc)
  have hl : lv_has ls 2 [(0, .ref d), (1, .int x)] := hl
  refine lv_iload_n hx hb dX2_pass_0 rfl (lv_at hl 1 rfl) ?_
  refine lv_iconst (v := nI 0) hx hb dX2_pass_1 (by decide) ?_
  refine lv_ldc (v := nI 1000000) hx hb hown (hts (.constant RX2 71 (1000000)) mwX2_pass_0) dX2_pass_2 ?_
  refine goSI hc (kX2_isWithin l D k s.heap.size x (nI 0) (nI 1000000)) (va_cwS 3 hts gX2_pass_X2_isWithin rfl rfl rfl (by decide +kernel) ⟨(Nat.le_of_ble_eq_true rfl), (Nat.le_of_ble_eq_true rfl)⟩) hP hD hK hS hA rfl hl.1 rfl (Nat.le_of_ble_eq_true rfl) dX2_pass_4 (Nat.le_of_ble_eq_true rfl) (Nat.le_of_ble_eq_true rfl) (fun r9 B9 H locs hq hP hD hS => ?_)
  obtain ⟨hr9, -⟩ := hq
  subst hr9
  have hP : va_P D vwCl (DkW d (cq 0) (rq 0) ck hd po st sl le ++ (ClW cq k th co bu tg wa se ld ++ (RqW rq k ow wr fi sz dl wt bl sh so tn sn un))) H := hP
  have hD : va_D A (DkW d (cq 0) (rq 0) ck hd po st sl le ++ (ClW cq k th co bu tg wa se ld ++ (RqW rq k ow wr fi sz dl wt bl sh so tn sn un))) := hD
  refine lv_if_ne (tgt := 18) hx hb dX2_pass_7 (by decide) (fun c1 => ?_) (fun c1 => ?_)
  · refine lv_aload_n hx hb dX2_pass_18 rfl (lv_at hl 0 rfl) ?_
    refine lv_dup hx hb dX2_pass_19 rfl ?_
    refine va_get (D := D) (ci := 2) (v := .long ck) (C := RX2) (T := TX2) (N := 8) hx hb hts iwX2_pass_X2 hown hK hP 0 rfl rfl 2 (by decide) (hts (Cond.fieldLink RX2 79 "ShareDisk" "clock" "J") mwX2_pass_1) (fun _ h9 => h9) rfl dX2_pass_20 ?_
    refine lv_iload_n hx hb dX2_pass_23 rfl (lv_at hl 1 rfl) ?_
    refine lv_i2l (v := x.toInt64) hx hb dX2_pass_24 rfl ?_
    refine lv_ladd hx hb dX2_pass_25 ?_
    refine va_put (D := D) (ci := 2) (v := .long (ck + x.toInt64)) (ty := .long) (C := RX2) (T := TX2) (N := 8) hx hb hts iwX2_pass_X2 tyX2 tyX2_ok nmX2 hown hK hP hD hS 0 rfl rfl 2 (by decide) (hts (Cond.fieldLink RX2 79 "ShareDisk" "clock" "J") mwX2_pass_1) (fun _ h9 => h9) rfl (by decide +kernel) rfl rfl (Nat.le_of_ble_eq_true rfl) dX2_pass_26 (fun H locs hP hD hS => ?_)
    have hP : va_P D vwCl (DkW d (cq 0) (rq 0) (ck + x.toInt64) hd po st sl le ++ (ClW cq k th co bu tg wa se ld ++ (RqW rq k ow wr fi sz dl wt bl sh so tn sn un))) H := hP
    have hD : va_D A (DkW d (cq 0) (rq 0) (ck + x.toInt64) hd po st sl le ++ (ClW cq k th co bu tg wa se ld ++ (RqW rq k ow wr fi sz dl wt bl sh so tn sn un))) := hD
    refine lv_aload_n hx hb dX2_pass_29 rfl (lv_at hl 0 rfl) ?_
    refine va_get (D := D) (ci := 2) (v := .long (ck + x.toInt64)) (C := RX2) (T := TX2) (N := 8) hx hb hts iwX2_pass_X2 hown hK hP 0 rfl rfl 2 (by decide) (hts (Cond.fieldLink RX2 79 "ShareDisk" "clock" "J") mwX2_pass_1) (fun _ h9 => h9) rfl dX2_pass_30 ?_
    exact retLX hc dX2_pass_33 hK hP hD hS (⟨bI_1 c1, rfl, rfl⟩) (Nat.le_of_ble_eq_true rfl) (Nat.le_of_ble_eq_true rfl)
  · exact thr (E := "java/lang/IllegalArgumentException") (names := ["java/lang/RuntimeException", "java/lang/Exception"]) hc htab hl0 hZ hK hP hD hS (by decide +kernel) (by decide +kernel) mwX2_pass_2 mwX2_pass_3 xaX2_pass_33 xbX2_pass_33 xcX2_pass_33 hl.1 dX2_pass_10 dX2_pass_13 dX2_pass_14 dX2_pass_17 (Nat.le_of_ble_eq_true rfl) (Nat.le_of_ble_eq_true rfl) (Nat.le_of_ble_eq_true rfl) (Nat.le_of_ble_eq_true rfl) (⟨rfl, rfl, bI_0 c1⟩) (Nat.le_of_ble_eq_true rfl) (Nat.le_of_ble_eq_true rfl)
theorem mwX2_state_0 : Cond.fieldLink RX2 19 "ShareDisk" "requests" "LShareDisk$Requests;" ∈ wsX2_state := by decide +kernel
theorem mwX2_state_1 : Cond.classLink RX2 107 "java/lang/IndexOutOfBoundsException" ∈ wsX2_state := by decide +kernel
theorem mwX2_state_2 : Cond.initialized "java/lang/IndexOutOfBoundsException" ∈ wsX2_state := by decide +kernel
theorem iwX2_state_X2 : ∀ w ∈ wsX20, w ∈ wsX2_state := by decide +kernel
theorem xaX2_state_109 : ∀ w ∈ (vx_at0 RX2 109 "java/lang/IndexOutOfBoundsException" ["java/lang/RuntimeException", "java/lang/Exception"]).filter goodWord, w ∈ wsX2_state := by decide +kernel
theorem xbX2_state_109 : ∀ w ∈ (vx_at0 RX2 109 "java/lang/IndexOutOfBoundsException" ["java/lang/RuntimeException", "java/lang/Exception"]).filter (fun w => !goodWord w), w ∈ NGl := by decide +kernel
theorem xcX2_state_109 : ∀ w ∈ Cond.classLink RX2 107 "java/lang/IndexOutOfBoundsException" :: Cond.initialized "java/lang/IndexOutOfBoundsException" :: vx_at0 RX2 109 "java/lang/IndexOutOfBoundsException" ["java/lang/RuntimeException", "java/lang/Exception"], vx_ot w = true := by decide +kernel
set_option maxHeartbeats 4000000 in
set_option maxRecDepth 100000 in
theorem kX2_state (l : Launch) (D : va_G) (k : Nat → ClassId) (d : Nat) (cq : Nat → Nat) (rq : Nat → Nat) (zz : Nat) (ck : Int64) (hd : Int32) (po st : Int64) (sl le : Int32) (th co bu : Nat → Int32) (tg : Nat → Int64) (wa se : Nat → Int32) (ld : Nat → Nat → Int64) (ow wr fi sz : Nat → Int32) (dl : Nat → Int64) (wt bl sh so : Nat → Int32) (tn sn un : Nat) (x : Int32) (htn : tn ≤ 500) (hl0 : l.stackTraces = false) : XI l yX2_state wsX2_state ({ frames := 6, cells := 1, slots := 6, locals := 89 } : Room) D k (DkW d (cq 0) (rq 0) ck hd po st sl le ++ (ClW cq k th co bu tg wa se ld ++ (RqW rq k ow wr fi sz dl wt bl sh so tn sn un))) zz [.ref d, .int x] (fun r9 w9 => ∃ j, j < tn ∧ x = nI j ∧ r9 = stF wt bl sh j ∧ w9 = DkW d (cq 0) (rq 0) ck hd po st sl le ++ (ClW cq k th co bu tg wa se ld ++ (RqW rq k ow wr fi sz dl wt bl sh so tn sn un))) (fun E w9 => E = IOB ∧ w9 = DkW d (cq 0) (rq 0) ck hd po st sl le ++ (ClW cq k th co bu tg wa se ld ++ (RqW rq k ow wr fi sz dl wt bl sh so tn sn un)) ∧ ¬ (¬ x < 0 ∧ ¬ nI tn ≤ x)) 1 6 := by
  refine bodyOfX (Qc := fun A => QI D k (fun r9 w9 => ∃ j, j < tn ∧ x = nI j ∧ r9 = stF wt bl sh j ∧ w9 = DkW d (cq 0) (rq 0) ck hd po st sl le ++ (ClW cq k th co bu tg wa se ld ++ (RqW rq k ow wr fi sz dl wt bl sh so tn sn un))) A) (XC := fun A => QX D k (fun E w9 => E = IOB ∧ w9 = DkW d (cq 0) (rq 0) ck hd po st sl le ++ (ClW cq k th co bu tg wa se ld ++ (RqW rq k ow wr fi sz dl wt bl sh so tn sn un)) ∧ ¬ (¬ x < 0 ∧ ¬ nI tn ≤ x)) A) (cc := cX2_state) (maxL := 2) (ret := (some .int)) (by decide) rfl (Nat.le_of_ble_eq_true rfl) ?_
  intro p e s m below meth c A ls hc htab hZ hA hK hP hD hS hl
  obtain ⟨hx, hb, hml, hr, hts, hown, hlocks, hin⟩ := (show _ from hc)
  have hl : lv_has ls 2 [(0, .ref d), (1, .int x)] := hl
  refine lv_aload_n hx hb dX2_state_0 rfl (lv_at hl 0 rfl) ?_
  refine va_get (D := D) (ci := 2) (v := .ref (rq 0)) (C := RX2) (T := TX2) (N := 8) hx hb hts iwX2_state_X2 hown hK hP 0 rfl rfl 1 (by decide) (hts (Cond.fieldLink RX2 19 "ShareDisk" "requests" "LShareDisk$Requests;") mwX2_state_0) (fun _ h9 => h9) rfl dX2_state_1 ?_
  refine lv_iload_n hx hb dX2_state_4 rfl (lv_at hl 1 rfl) ?_
  refine goVI2 hc (kX1_isTicket l D k rq s.heap.size ow wr fi sz dl wt bl sh so tn sn un x) (cwV 1 hts gX2_state_X1_isTicket rfl rfl rfl (by decide +kernel) ⟨(Nat.le_of_ble_eq_true rfl), (Nat.le_of_ble_eq_true rfl)⟩) hP hD hK hS hA (ci := 1) (q0 := 0) rfl rfl rfl hl.1 rfl (Nat.le_of_ble_eq_true rfl) dX2_state_5 (Nat.le_of_ble_eq_true rfl) (Nat.le_of_ble_eq_true rfl) (fun r9 B9 H locs hq hP hD hS => ?_)
  obtain ⟨hr9, rfl⟩ := hq
  subst hr9
  have hP : va_P D vwCl (DkW d (cq 0) (rq 0) ck hd po st sl le ++ (ClW cq k th co bu tg wa se ld ++ (RqW rq k ow wr fi sz dl wt bl sh so tn sn un))) H := hP
  have hD : va_D A (DkW d (cq 0) (rq 0) ck hd po st sl le ++ (ClW cq k th co bu tg wa se ld ++ (RqW rq k ow wr fi sz dl wt bl sh so tn sn un))) := hD
  refine lv_if_ne (tgt := 19) hx hb dX2_state_8 (by decide) (fun c1 => ?_) (fun c1 => ?_)
  · obtain ⟨j, hj, rfl⟩ := ofI (bI_1 c1).1 (bI_1 c1).2 (by omega)
    refine lv_aload_n hx hb dX2_state_19 rfl (lv_at hl 0 rfl) ?_
    refine va_get (D := D) (ci := 2) (v := .ref (rq 0)) (C := RX2) (T := TX2) (N := 8) hx hb hts iwX2_state_X2 hown hK hP 0 rfl rfl 1 (by decide) (hts (Cond.fieldLink RX2 19 "ShareDisk" "requests" "LShareDisk$Requests;") mwX2_state_0) (fun _ h9 => h9) rfl dX2_state_20 ?_
    refine lv_iload_n hx hb dX2_state_23 rfl (lv_at hl 1 rfl) ?_
    refine goVI2 hc (kX1_stateOf l D k rq H.size ow wr fi sz dl wt bl sh so tn sn un j (by omega)) (cwV 1 hts gX2_state_X1_stateOf rfl rfl rfl (by decide +kernel) ⟨(Nat.le_of_ble_eq_true rfl), (Nat.le_of_ble_eq_true rfl)⟩) hP hD hK hS hA (ci := 1) (q0 := 0) rfl rfl rfl hl.1 rfl (Nat.le_of_ble_eq_true rfl) dX2_state_24 (Nat.le_of_ble_eq_true rfl) (Nat.le_of_ble_eq_true rfl) (fun r9 B9 H locs hq hP hD hS => ?_)
    obtain ⟨hr9, rfl⟩ := hq
    subst hr9
    have hP : va_P D vwCl (DkW d (cq 0) (rq 0) ck hd po st sl le ++ (ClW cq k th co bu tg wa se ld ++ (RqW rq k ow wr fi sz dl wt bl sh so tn sn un))) H := hP
    have hD : va_D A (DkW d (cq 0) (rq 0) ck hd po st sl le ++ (ClW cq k th co bu tg wa se ld ++ (RqW rq k ow wr fi sz dl wt bl sh so tn sn un))) := hD
    exact retIX hc dX2_state_27 hK hP hD hS (⟨j, hj, rfl, rfl, rfl⟩) (Nat.le_of_ble_eq_true rfl) (Nat.le_of_ble_eq_true rfl)
  · exact thr (E := "java/lang/IndexOutOfBoundsException") (names := ["java/lang/RuntimeException", "java/lang/Exception"]) hc htab hl0 hZ hK hP hD hS (by decide +kernel) (by decide +kernel) mwX2_state_1 mwX2_state_2 xaX2_state_109 xbX2_state_109 xcX2_state_109 hl.1 dX2_state_11 dX2_state_14 dX2_state_15 dX2_state_18 (Nat.le_of_ble_eq_true rfl) (Nat.le_of_ble_eq_true rfl) (Nat.le_of_ble_eq_true rfl) (Nat.le_of_ble_eq_true rfl) (⟨rfl, rfl, bI_0 c1⟩) (Nat.le_of_ble_eq_true rfl) (Nat.le_of_ble_eq_true rfl)
theorem mwX2_order_0 : Cond.fieldLink RX2 19 "ShareDisk" "requests" "LShareDisk$Requests;" ∈ wsX2_order := by decide +kernel
theorem iwX2_order_X2 : ∀ w ∈ wsX20, w ∈ wsX2_order := by decide +kernel
set_option maxHeartbeats 4000000 in
set_option maxRecDepth 100000 in
theorem kX2_order (l : Launch) (D : va_G) (k : Nat → ClassId) (d : Nat) (cq : Nat → Nat) (rq : Nat → Nat) (zz : Nat) (ck : Int64) (hd : Int32) (po st : Int64) (sl le : Int32) (th co bu : Nat → Int32) (tg : Nat → Int64) (wa se : Nat → Int32) (ld : Nat → Nat → Int64) (ow wr fi sz : Nat → Int32) (dl : Nat → Int64) (wt bl sh so : Nat → Int32) (tn sn un : Nat) (x : Int32) (hsn : sn ≤ 500) : MI l yX2_order wsX2_order ({ frames := 1, cells := 0, slots := 0, locals := 21 } : Room) D k (DkW d (cq 0) (rq 0) ck hd po st sl le ++ (ClW cq k th co bu tg wa se ld ++ (RqW rq k ow wr fi sz dl wt bl sh so tn sn un))) zz [.ref d, .int x] (fun r9 w9 => r9 = (sAt so sn x) ∧ w9 = DkW d (cq 0) (rq 0) ck hd po st sl le ++ (ClW cq k th co bu tg wa se ld ++ (RqW rq k ow wr fi sz dl wt bl sh so tn sn un))) 0 0 := by
  refine bodyOf (Qc := fun A => QI D k (fun r9 w9 => r9 = (sAt so sn x) ∧ w9 = DkW d (cq 0) (rq 0) ck hd po st sl le ++ (ClW cq k th co bu tg wa se ld ++ (RqW rq k ow wr fi sz dl wt bl sh so tn sn un))) A) (cc := cX2_order) (maxL := 2) (ret := (some .int)) (by decide) rfl (Nat.le_of_ble_eq_true rfl) ?_
  intro p e s m below meth c A ls hc hA hK hP hD hS hl
  obtain ⟨hx, hb, hml, hr, hts, hown, hlocks, hin⟩ := (show _ from hc)
  have hl : lv_has ls 2 [(0, .ref d), (1, .int x)] := hl
  refine lv_aload_n hx hb dX2_order_0 rfl (lv_at hl 0 rfl) ?_
  refine va_get (D := D) (ci := 2) (v := .ref (rq 0)) (C := RX2) (T := TX2) (N := 8) hx hb hts iwX2_order_X2 hown hK hP 0 rfl rfl 1 (by decide) (hts (Cond.fieldLink RX2 19 "ShareDisk" "requests" "LShareDisk$Requests;") mwX2_order_0) (fun _ h9 => h9) rfl dX2_order_1 ?_
  refine lv_iload_n hx hb dX2_order_4 rfl (lv_at hl 1 rfl) ?_
  refine goVI2 hc (kX1_servedAt l D k rq s.heap.size ow wr fi sz dl wt bl sh so tn sn un x (hsn)) (cwV 1 hts gX2_order_X1_servedAt rfl rfl rfl (by decide +kernel) ⟨(Nat.le_of_ble_eq_true rfl), (Nat.le_of_ble_eq_true rfl)⟩) hP hD hK hS hA (ci := 1) (q0 := 0) rfl rfl rfl hl.1 rfl (Nat.le_of_ble_eq_true rfl) dX2_order_5 (Nat.le_of_ble_eq_true rfl) (Nat.le_of_ble_eq_true rfl) (fun r9 B9 H locs hq hP hD hS => ?_)
  obtain ⟨hr9, rfl⟩ := hq
  subst hr9
  have hP : va_P D vwCl (DkW d (cq 0) (rq 0) ck hd po st sl le ++ (ClW cq k th co bu tg wa se ld ++ (RqW rq k ow wr fi sz dl wt bl sh so tn sn un))) H := hP
  have hD : va_D A (DkW d (cq 0) (rq 0) ck hd po st sl le ++ (ClW cq k th co bu tg wa se ld ++ (RqW rq k ow wr fi sz dl wt bl sh so tn sn un))) := hD
  exact retI hc dX2_order_8 hK hP hD hS (⟨rfl, rfl⟩) (Nat.le_of_ble_eq_true rfl) (Nat.le_of_ble_eq_true rfl)
theorem mwX2_tag_0 : Cond.fieldLink RX2 10 "ShareDisk" "clients" "LShareDisk$Clients;" ∈ wsX2_tag := by decide +kernel
theorem mwX2_tag_1 : Cond.fieldLink RX2 38 "ShareDisk" "systemTag" "J" ∈ wsX2_tag := by decide +kernel
theorem iwX2_tag_X2 : ∀ w ∈ wsX20, w ∈ wsX2_tag := by decide +kernel
set_option maxHeartbeats 4000000 in
set_option maxRecDepth 100000 in
theorem kX2_tag (l : Launch) (D : va_G) (k : Nat → ClassId) (d : Nat) (cq : Nat → Nat) (rq : Nat → Nat) (zz : Nat) (ck : Int64) (hd : Int32) (po st : Int64) (sl le : Int32) (th co bu : Nat → Int32) (tg : Nat → Int64) (wa se : Nat → Int32) (ld : Nat → Nat → Int64) (ow wr fi sz : Nat → Int32) (dl : Nat → Int64) (wt bl sh so : Nat → Int32) (tn sn un : Nat) (x : Int32) (hth : ∀ i, th i = 0 ∨ th i = 1) (hl0 : l.stackTraces = false) : XL l yX2_tag wsX2_tag ({ frames := 7, cells := 1, slots := 6, locals := 110 } : Room) D k (DkW d (cq 0) (rq 0) ck hd po st sl le ++ (ClW cq k th co bu tg wa se ld ++ (RqW rq k ow wr fi sz dl wt bl sh so tn sn un))) zz [.ref d, .int x] (fun r9 w9 => w9 = DkW d (cq 0) (rq 0) ck hd po st sl le ++ (ClW cq k th co bu tg wa se ld ++ (RqW rq k ow wr fi sz dl wt bl sh so tn sn un)) ∧ ((x = nI 8 ∧ r9 = st) ∨ (¬ x = nI 8 ∧ ∃ j, j < 8 ∧ x = nI j ∧ ¬ th j = 0 ∧ r9 = tg j))) (fun E w9 => E = IAE ∧ w9 = DkW d (cq 0) (rq 0) ck hd po st sl le ++ (ClW cq k th co bu tg wa se ld ++ (RqW rq k ow wr fi sz dl wt bl sh so tn sn un)) ∧ ¬ x = nI 8 ∧ ¬ isT th x) 1 6 := by
  refine bodyOfX (Qc := fun A => QL D k (fun r9 w9 => w9 = DkW d (cq 0) (rq 0) ck hd po st sl le ++ (ClW cq k th co bu tg wa se ld ++ (RqW rq k ow wr fi sz dl wt bl sh so tn sn un)) ∧ ((x = nI 8 ∧ r9 = st) ∨ (¬ x = nI 8 ∧ ∃ j, j < 8 ∧ x = nI j ∧ ¬ th j = 0 ∧ r9 = tg j))) A) (XC := fun A => QX D k (fun E w9 => E = IAE ∧ w9 = DkW d (cq 0) (rq 0) ck hd po st sl le ++ (ClW cq k th co bu tg wa se ld ++ (RqW rq k ow wr fi sz dl wt bl sh so tn sn un)) ∧ ¬ x = nI 8 ∧ ¬ isT th x) A) (cc := cX2_tag) (maxL := 2) (ret := (some .long)) (by decide) rfl (Nat.le_of_ble_eq_true rfl) ?_
  intro p e s m below meth c A ls hc htab hZ hA hK hP hD hS hl
  obtain ⟨hx, hb, hml, hr, hts, hown, hlocks, hin⟩ := (show _ from hc)
  have hl : lv_has ls 2 [(0, .ref d), (1, .int x)] := hl
  refine lv_iload_n hx hb dX2_tag_0 rfl (lv_at hl 1 rfl) ?_
  refine lv_bipush (v := nI 8) hx hb dX2_tag_1 (by decide) ?_
  refine lv_icmp_ne (tgt := 11) hx hb dX2_tag_3 (by decide) (fun c1 => ?_) (fun c1 => ?_)
  · refine lv_aload_n hx hb dX2_tag_11 rfl (lv_at hl 0 rfl) ?_
    refine lv_iload_n hx hb dX2_tag_12 rfl (lv_at hl 1 rfl) ?_
    refine goXV0 hc (kX2_requireThere l D k d cq rq s.heap.size ck hd po st sl le th co bu tg wa se ld ow wr fi sz dl wt bl sh so tn sn un x (hth) hl0) (cwV 1 hts gX2_tag_X2_requireThere rfl rfl rfl (by decide +kernel) ⟨(Nat.le_of_ble_eq_true rfl), (Nat.le_of_ble_eq_true rfl)⟩) hP hD hK hZ hS hA (ci := 2) (q0 := 0) rfl rfl rfl hl.1 rfl (Nat.le_of_ble_eq_true rfl) dX2_tag_13 (Nat.le_of_ble_eq_true rfl) (Nat.le_of_ble_eq_true rfl) (fun E ce q9 B9 H locs hq hP hD hS hce hcv hcc => ?_) (fun B9 H locs hq hP hD hS => ?_)
    · exact outX hc htab hK hP hD hS hce hcv hcc (⟨hq.1, hq.2.1, c1, hq.2.2⟩) (Nat.le_of_ble_eq_true rfl) (Nat.le_of_ble_eq_true rfl)
    obtain ⟨rfl, hf9⟩ := hq
    have hP : va_P D vwCl (DkW d (cq 0) (rq 0) ck hd po st sl le ++ (ClW cq k th co bu tg wa se ld ++ (RqW rq k ow wr fi sz dl wt bl sh so tn sn un))) H := hP
    have hD : va_D A (DkW d (cq 0) (rq 0) ck hd po st sl le ++ (ClW cq k th co bu tg wa se ld ++ (RqW rq k ow wr fi sz dl wt bl sh so tn sn un))) := hD
    obtain ⟨j, hj, rfl, hthj⟩ := hf9
    refine lv_aload_n hx hb dX2_tag_16 rfl (lv_at hl 0 rfl) ?_
    refine va_get (D := D) (ci := 2) (v := .ref (cq 0)) (C := RX2) (T := TX2) (N := 8) hx hb hts iwX2_tag_X2 hown hK hP 0 rfl rfl 0 (by decide) (hts (Cond.fieldLink RX2 10 "ShareDisk" "clients" "LShareDisk$Clients;") mwX2_tag_0) (fun _ h9 => h9) rfl dX2_tag_17 ?_
    refine lv_iload_n hx hb dX2_tag_20 rfl (lv_at hl 1 rfl) ?_
    refine goVL hc (kX0_tagOf l D k cq H.size th co bu tg wa se ld j (hj)) (cwV 1 hts gX2_tag_X0_tagOf rfl rfl rfl (by decide +kernel) ⟨(Nat.le_of_ble_eq_true rfl), (Nat.le_of_ble_eq_true rfl)⟩) hP hD hK hS hA (ci := 0) (q0 := 0) rfl rfl rfl hl.1 rfl (Nat.le_of_ble_eq_true rfl) dX2_tag_21 (Nat.le_of_ble_eq_true rfl) (Nat.le_of_ble_eq_true rfl) (fun r9 B9 H locs hq hP hD hS => ?_)
    obtain ⟨hr9, rfl⟩ := hq
    subst hr9
    have hP : va_P D vwCl (DkW d (cq 0) (rq 0) ck hd po st sl le ++ (ClW cq k th co bu tg wa se ld ++ (RqW rq k ow wr fi sz dl wt bl sh so tn sn un))) H := hP
    have hD : va_D A (DkW d (cq 0) (rq 0) ck hd po st sl le ++ (ClW cq k th co bu tg wa se ld ++ (RqW rq k ow wr fi sz dl wt bl sh so tn sn un))) := hD
    exact retLX hc dX2_tag_24 hK hP hD hS (⟨rfl, Or.inr ⟨c1, j, hj, rfl, hthj, rfl⟩⟩) (Nat.le_of_ble_eq_true rfl) (Nat.le_of_ble_eq_true rfl)
  · refine lv_aload_n hx hb dX2_tag_6 rfl (lv_at hl 0 rfl) ?_
    refine va_get (D := D) (ci := 2) (v := .long st) (C := RX2) (T := TX2) (N := 8) hx hb hts iwX2_tag_X2 hown hK hP 0 rfl rfl 5 (by decide) (hts (Cond.fieldLink RX2 38 "ShareDisk" "systemTag" "J") mwX2_tag_1) (fun _ h9 => h9) rfl dX2_tag_7 ?_
    exact retLX hc dX2_tag_10 hK hP hD hS (⟨rfl, Or.inl ⟨c1, rfl⟩⟩) (Nat.le_of_ble_eq_true rfl) (Nat.le_of_ble_eq_true rfl)
theorem mwX2_lag_0 : Cond.fieldLink RX2 10 "ShareDisk" "clients" "LShareDisk$Clients;" ∈ wsX2_lag := by decide +kernel
theorem mwX2_lag_1 : Cond.classLink RX2 31 "java/lang/IllegalArgumentException" ∈ wsX2_lag := by decide +kernel
theorem mwX2_lag_2 : Cond.initialized "java/lang/IllegalArgumentException" ∈ wsX2_lag := by decide +kernel
theorem iwX2_lag_X2 : ∀ w ∈ wsX20, w ∈ wsX2_lag := by decide +kernel
theorem xaX2_lag_33 : ∀ w ∈ (vx_at0 RX2 33 "java/lang/IllegalArgumentException" ["java/lang/RuntimeException", "java/lang/Exception"]).filter goodWord, w ∈ wsX2_lag := by decide +kernel
theorem xbX2_lag_33 : ∀ w ∈ (vx_at0 RX2 33 "java/lang/IllegalArgumentException" ["java/lang/RuntimeException", "java/lang/Exception"]).filter (fun w => !goodWord w), w ∈ NGl := by decide +kernel
theorem xcX2_lag_33 : ∀ w ∈ Cond.classLink RX2 31 "java/lang/IllegalArgumentException" :: Cond.initialized "java/lang/IllegalArgumentException" :: vx_at0 RX2 33 "java/lang/IllegalArgumentException" ["java/lang/RuntimeException", "java/lang/Exception"], vx_ot w = true := by decide +kernel
set_option maxHeartbeats 4000000 in
set_option maxRecDepth 100000 in
theorem kX2_lag (l : Launch) (D : va_G) (k : Nat → ClassId) (d : Nat) (cq : Nat → Nat) (rq : Nat → Nat) (zz : Nat) (ck : Int64) (hd : Int32) (po st : Int64) (sl le : Int32) (th co bu : Nat → Int32) (tg : Nat → Int64) (wa se : Nat → Int32) (ld : Nat → Nat → Int64) (ow wr fi sz : Nat → Int32) (dl : Nat → Int64) (wt bl sh so : Nat → Int32) (tn sn un : Nat) (x : Int32) (y : Int32) (hth : ∀ i, th i = 0 ∨ th i = 1) (hl0 : l.stackTraces = false) : XL l yX2_lag wsX2_lag ({ frames := 7, cells := 3, slots := 18, locals := 110 } : Room) D k (DkW d (cq 0) (rq 0) ck hd po st sl le ++ (ClW cq k th co bu tg wa se ld ++ (RqW rq k ow wr fi sz dl wt bl sh so tn sn un))) zz [.ref d, .int x, .int y] (fun r9 w9 => w9 = DkW d (cq 0) (rq 0) ck hd po st sl le ++ (ClW cq k th co bu tg wa se ld ++ (RqW rq k ow wr fi sz dl wt bl sh so tn sn un)) ∧ ∃ a b, a < 8 ∧ b < 8 ∧ x = nI a ∧ y = nI b ∧ ¬ th a = 0 ∧ ¬ th b = 0 ∧ ¬ x = y ∧ r9 = (if wa a ≤ 0 then 0 else if wa b ≤ 0 then 0 else ld a b)) (fun E w9 => E = IAE ∧ w9 = DkW d (cq 0) (rq 0) ck hd po st sl le ++ (ClW cq k th co bu tg wa se ld ++ (RqW rq k ow wr fi sz dl wt bl sh so tn sn un)) ∧ ¬ (isT th x ∧ isT th y ∧ ¬ x = y)) 3 18 := by
  refine bodyOfX (Qc := fun A => QL D k (fun r9 w9 => w9 = DkW d (cq 0) (rq 0) ck hd po st sl le ++ (ClW cq k th co bu tg wa se ld ++ (RqW rq k ow wr fi sz dl wt bl sh so tn sn un)) ∧ ∃ a b, a < 8 ∧ b < 8 ∧ x = nI a ∧ y = nI b ∧ ¬ th a = 0 ∧ ¬ th b = 0 ∧ ¬ x = y ∧ r9 = (if wa a ≤ 0 then 0 else if wa b ≤ 0 then 0 else ld a b)) A) (XC := fun A => QX D k (fun E w9 => E = IAE ∧ w9 = DkW d (cq 0) (rq 0) ck hd po st sl le ++ (ClW cq k th co bu tg wa se ld ++ (RqW rq k ow wr fi sz dl wt bl sh so tn sn un)) ∧ ¬ (isT th x ∧ isT th y ∧ ¬ x = y)) A) (cc := cX2_lag) (maxL := 3) (ret := (some .long)) (by decide) rfl (Nat.le_of_ble_eq_true rfl) ?_
  intro p e s m below meth c A ls hc htab hZ hA hK hP hD hS hl
  obtain ⟨hx, hb, hml, hr, hts, hown, hlocks, hin⟩ := (show _ from hc)
  have hl : lv_has ls 3 [(0, .ref d), (1, .int x), (2, .int y)] := hl
  refine lv_aload_n hx hb dX2_lag_0 rfl (lv_at hl 0 rfl) ?_
  refine lv_iload_n hx hb dX2_lag_1 rfl (lv_at hl 1 rfl) ?_
  refine goXV0 hc (kX2_requireThere l D k d cq rq s.heap.size ck hd po st sl le th co bu tg wa se ld ow wr fi sz dl wt bl sh so tn sn un x (hth) hl0) (cwV 1 hts gX2_lag_X2_requireThere rfl rfl rfl (by decide +kernel) ⟨(Nat.le_of_ble_eq_true rfl), (Nat.le_of_ble_eq_true rfl)⟩) hP hD hK hZ hS hA (ci := 2) (q0 := 0) rfl rfl rfl hl.1 rfl (Nat.le_of_ble_eq_true rfl) dX2_lag_2 (Nat.le_of_ble_eq_true rfl) (Nat.le_of_ble_eq_true rfl) (fun E ce q9 B9 H locs hq hP hD hS hce hcv hcc => ?_) (fun B9 H locs hq hP hD hS => ?_)
  · exact outX hc htab hK hP hD hS hce hcv hcc (⟨hq.1, hq.2.1, fun h => hq.2.2 h.1⟩) (Nat.le_of_ble_eq_true rfl) (Nat.le_of_ble_eq_true rfl)
  obtain ⟨rfl, hf9⟩ := hq
  have hP : va_P D vwCl (DkW d (cq 0) (rq 0) ck hd po st sl le ++ (ClW cq k th co bu tg wa se ld ++ (RqW rq k ow wr fi sz dl wt bl sh so tn sn un))) H := hP
  have hD : va_D A (DkW d (cq 0) (rq 0) ck hd po st sl le ++ (ClW cq k th co bu tg wa se ld ++ (RqW rq k ow wr fi sz dl wt bl sh so tn sn un))) := hD
  obtain ⟨a, ha, rfl, hta⟩ := hf9
  refine lv_aload_n hx hb dX2_lag_5 rfl (lv_at hl 0 rfl) ?_
  refine lv_iload_n hx hb dX2_lag_6 rfl (lv_at hl 2 rfl) ?_
  refine goXV0 hc (kX2_requireThere l D k d cq rq H.size ck hd po st sl le th co bu tg wa se ld ow wr fi sz dl wt bl sh so tn sn un y (hth) hl0) (cwV 1 hts gX2_lag_X2_requireThere rfl rfl rfl (by decide +kernel) ⟨(Nat.le_of_ble_eq_true rfl), (Nat.le_of_ble_eq_true rfl)⟩) hP hD hK hZ hS hA (ci := 2) (q0 := 0) rfl rfl rfl hl.1 rfl (Nat.le_of_ble_eq_true rfl) dX2_lag_7 (Nat.le_of_ble_eq_true rfl) (Nat.le_of_ble_eq_true rfl) (fun E ce q9 B9 H locs hq hP hD hS hce hcv hcc => ?_) (fun B9 H locs hq hP hD hS => ?_)
  · exact outX hc htab hK hP hD hS hce hcv hcc (⟨hq.1, hq.2.1, fun h => hq.2.2 h.2.1⟩) (Nat.le_of_ble_eq_true rfl) (Nat.le_of_ble_eq_true rfl)
  obtain ⟨rfl, hf9⟩ := hq
  have hP : va_P D vwCl (DkW d (cq 0) (rq 0) ck hd po st sl le ++ (ClW cq k th co bu tg wa se ld ++ (RqW rq k ow wr fi sz dl wt bl sh so tn sn un))) H := hP
  have hD : va_D A (DkW d (cq 0) (rq 0) ck hd po st sl le ++ (ClW cq k th co bu tg wa se ld ++ (RqW rq k ow wr fi sz dl wt bl sh so tn sn un))) := hD
  obtain ⟨b, hb8, rfl, htb⟩ := hf9
  refine lv_iload_n hx hb dX2_lag_10 rfl (lv_at hl 1 rfl) ?_
  refine lv_iload_n hx hb dX2_lag_11 rfl (lv_at hl 2 rfl) ?_
  refine lv_icmp_ne (tgt := 23) hx hb dX2_lag_12 (by decide) (fun c3 => ?_) (fun c3 => ?_)
  · refine lv_aload_n hx hb dX2_lag_23 rfl (lv_at hl 0 rfl) ?_
    refine va_get (D := D) (ci := 2) (v := .ref (cq 0)) (C := RX2) (T := TX2) (N := 8) hx hb hts iwX2_lag_X2 hown hK hP 0 rfl rfl 0 (by decide) (hts (Cond.fieldLink RX2 10 "ShareDisk" "clients" "LShareDisk$Clients;") mwX2_lag_0) (fun _ h9 => h9) rfl dX2_lag_24 ?_
    refine lv_iload_n hx hb dX2_lag_27 rfl (lv_at hl 1 rfl) ?_
    refine lv_iload_n hx hb dX2_lag_28 rfl (lv_at hl 2 rfl) ?_
    refine goVL hc (kX0_leadOf l D k cq H.size th co bu tg wa se ld a b (ha) (hb8)) (cwV 2 hts gX2_lag_X0_leadOf rfl rfl rfl (by decide +kernel) ⟨(Nat.le_of_ble_eq_true rfl), (Nat.le_of_ble_eq_true rfl)⟩) hP hD hK hS hA (ci := 0) (q0 := 0) rfl rfl rfl hl.1 rfl (Nat.le_of_ble_eq_true rfl) dX2_lag_29 (Nat.le_of_ble_eq_true rfl) (Nat.le_of_ble_eq_true rfl) (fun r9 B9 H locs hq hP hD hS => ?_)
    obtain ⟨hr9, rfl⟩ := hq
    subst hr9
    have hP : va_P D vwCl (DkW d (cq 0) (rq 0) ck hd po st sl le ++ (ClW cq k th co bu tg wa se ld ++ (RqW rq k ow wr fi sz dl wt bl sh so tn sn un))) H := hP
    have hD : va_D A (DkW d (cq 0) (rq 0) ck hd po st sl le ++ (ClW cq k th co bu tg wa se ld ++ (RqW rq k ow wr fi sz dl wt bl sh so tn sn un))) := hD
    exact retLX hc dX2_lag_32 hK hP hD hS (⟨rfl, a, b, ha, hb8, rfl, rfl, hta, htb, c3, rfl⟩) (Nat.le_of_ble_eq_true rfl) (Nat.le_of_ble_eq_true rfl)
  · exact thr (E := "java/lang/IllegalArgumentException") (names := ["java/lang/RuntimeException", "java/lang/Exception"]) hc htab hl0 hZ hK hP hD hS (by decide +kernel) (by decide +kernel) mwX2_lag_1 mwX2_lag_2 xaX2_lag_33 xbX2_lag_33 xcX2_lag_33 hl.1 dX2_lag_15 dX2_lag_18 dX2_lag_19 dX2_lag_22 (Nat.le_of_ble_eq_true rfl) (Nat.le_of_ble_eq_true rfl) (Nat.le_of_ble_eq_true rfl) (Nat.le_of_ble_eq_true rfl) (⟨rfl, rfl, fun h => h.2.2 c3⟩) (Nat.le_of_ble_eq_true rfl) (Nat.le_of_ble_eq_true rfl)
theorem mwX2_countOfDisk_0 : Cond.fieldLink RX2 10 "ShareDisk" "clients" "LShareDisk$Clients;" ∈ wsX2_countOfDisk := by decide +kernel
theorem mwX2_countOfDisk_1 : Cond.fieldLink RX2 19 "ShareDisk" "requests" "LShareDisk$Requests;" ∈ wsX2_countOfDisk := by decide +kernel
theorem mwX2_countOfDisk_2 : Cond.fieldLink RX2 97 "ShareDisk" "head" "I" ∈ wsX2_countOfDisk := by decide +kernel
theorem mwX2_countOfDisk_3 : Cond.fieldLink RX2 143 "ShareDisk" "passedOver" "J" ∈ wsX2_countOfDisk := by decide +kernel
theorem mwX2_countOfDisk_4 : Cond.fieldLink RX2 23 "ShareDisk" "sliceOwner" "I" ∈ wsX2_countOfDisk := by decide +kernel
theorem mwX2_countOfDisk_5 : Cond.fieldLink RX2 146 "ShareDisk" "sliceLeft" "I" ∈ wsX2_countOfDisk := by decide +kernel
theorem mwX2_countOfDisk_6 : Cond.constantLong RX2 149 (-1) ∈ wsX2_countOfDisk := by decide +kernel
theorem iwX2_countOfDisk_X2 : ∀ w ∈ wsX20, w ∈ wsX2_countOfDisk := by decide +kernel
set_option maxHeartbeats 4000000 in
set_option maxRecDepth 100000 in
theorem kX2_countOfDisk (l : Launch) (D : va_G) (k : Nat → ClassId) (d : Nat) (cq : Nat → Nat) (rq : Nat → Nat) (zz : Nat) (ck : Int64) (hd : Int32) (po st : Int64) (sl le : Int32) (th co bu : Nat → Int32) (tg : Nat → Int64) (wa se : Nat → Int32) (ld : Nat → Nat → Int64) (ow wr fi sz : Nat → Int32) (dl : Nat → Int64) (wt bl sh so : Nat → Int32) (tn sn un : Nat) (x : Int32) (hsn : sn ≤ tn) : ML l yX2_countOfDisk wsX2_countOfDisk ({ frames := 1, cells := 0, slots := 0, locals := 22 } : Room) D k (DkW d (cq 0) (rq 0) ck hd po st sl le ++ (ClW cq k th co bu tg wa se ld ++ (RqW rq k ow wr fi sz dl wt bl sh so tn sn un))) zz [.ref d, .int x] (fun r9 w9 => r9 = (cdF th tn sn un hd po sl le x) ∧ w9 = DkW d (cq 0) (rq 0) ck hd po st sl le ++ (ClW cq k th co bu tg wa se ld ++ (RqW rq k ow wr fi sz dl wt bl sh so tn sn un))) 0 0 := by
  refine bodyOf (Qc := fun A => QL D k (fun r9 w9 => r9 = (cdF th tn sn un hd po sl le x) ∧ w9 = DkW d (cq 0) (rq 0) ck hd po st sl le ++ (ClW cq k th co bu tg wa se ld ++ (RqW rq k ow wr fi sz dl wt bl sh so tn sn un))) A) (cc := cX2_countOfDisk) (maxL := 2) (ret := (some .long)) (by decide) rfl (Nat.le_of_ble_eq_true rfl) ?_
  intro p e s m below meth c A ls hc hA hK hP hD hS hl
  obtain ⟨hx, hb, hml, hr, hts, hown, hlocks, hin⟩ := (show _ from hc)
  have hl : lv_has ls 2 [(0, .ref d), (1, .int x)] := hl
  refine lv_iload_n hx hb dX2_countOfDisk_0 rfl (lv_at hl 1 rfl) ?_
  by_cases h0 : x = nI 0
  · subst h0
    refine lv_tableIn (off := 47) (tgt := 48) hx hb dX2_countOfDisk_1 (by decide) (by decide) (by decide) (by decide) ?_
    refine lv_aload_n hx hb dX2_countOfDisk_48 rfl (lv_at hl 0 rfl) ?_
    refine va_get (D := D) (ci := 2) (v := .ref (cq 0)) (C := RX2) (T := TX2) (N := 8) hx hb hts iwX2_countOfDisk_X2 hown hK hP 0 rfl rfl 0 (by decide) (hts (Cond.fieldLink RX2 10 "ShareDisk" "clients" "LShareDisk$Clients;") mwX2_countOfDisk_0) (fun _ h9 => h9) rfl dX2_countOfDisk_49 ?_
    refine goVI hc (kX0_howMany l D k cq s.heap.size th co bu tg wa se ld) (cwV 0 hts gX2_countOfDisk_X0_howMany rfl rfl rfl (by decide +kernel) ⟨(Nat.le_of_ble_eq_true rfl), (Nat.le_of_ble_eq_true rfl)⟩) hP hD hK hS hA (ci := 0) (q0 := 0) rfl rfl rfl hl.1 rfl (Nat.le_of_ble_eq_true rfl) dX2_countOfDisk_52 (Nat.le_of_ble_eq_true rfl) (Nat.le_of_ble_eq_true rfl) (fun r9 B9 H locs hq hP hD hS => ?_)
    obtain ⟨hr9, rfl⟩ := hq
    subst hr9
    have hP : va_P D vwCl (DkW d (cq 0) (rq 0) ck hd po st sl le ++ (ClW cq k th co bu tg wa se ld ++ (RqW rq k ow wr fi sz dl wt bl sh so tn sn un))) H := hP
    have hD : va_D A (DkW d (cq 0) (rq 0) ck hd po st sl le ++ (ClW cq k th co bu tg wa se ld ++ (RqW rq k ow wr fi sz dl wt bl sh so tn sn un))) := hD
    refine lv_i2l (v := (nI (hmN th 8)).toInt64) hx hb dX2_countOfDisk_55 rfl ?_
    exact retL hc dX2_countOfDisk_56 hK hP hD hS (⟨by rw [cdF, if_pos rfl], rfl⟩) (Nat.le_of_ble_eq_true rfl) (Nat.le_of_ble_eq_true rfl)
  by_cases h1 : x = nI 1
  · subst h1
    refine lv_tableIn (off := 56) (tgt := 57) hx hb dX2_countOfDisk_1 (by decide) (by decide) (by decide) (by decide) ?_
    refine lv_aload_n hx hb dX2_countOfDisk_57 rfl (lv_at hl 0 rfl) ?_
    refine va_get (D := D) (ci := 2) (v := .ref (rq 0)) (C := RX2) (T := TX2) (N := 8) hx hb hts iwX2_countOfDisk_X2 hown hK hP 0 rfl rfl 1 (by decide) (hts (Cond.fieldLink RX2 19 "ShareDisk" "requests" "LShareDisk$Requests;") mwX2_countOfDisk_1) (fun _ h9 => h9) rfl dX2_countOfDisk_58 ?_
    refine goVI2 hc (kX1_waiting l D k rq s.heap.size ow wr fi sz dl wt bl sh so tn sn un (hsn)) (cwV 0 hts gX2_countOfDisk_X1_waiting rfl rfl rfl (by decide +kernel) ⟨(Nat.le_of_ble_eq_true rfl), (Nat.le_of_ble_eq_true rfl)⟩) hP hD hK hS hA (ci := 1) (q0 := 0) rfl rfl rfl hl.1 rfl (Nat.le_of_ble_eq_true rfl) dX2_countOfDisk_61 (Nat.le_of_ble_eq_true rfl) (Nat.le_of_ble_eq_true rfl) (fun r9 B9 H locs hq hP hD hS => ?_)
    obtain ⟨hr9, rfl⟩ := hq
    subst hr9
    have hP : va_P D vwCl (DkW d (cq 0) (rq 0) ck hd po st sl le ++ (ClW cq k th co bu tg wa se ld ++ (RqW rq k ow wr fi sz dl wt bl sh so tn sn un))) H := hP
    have hD : va_D A (DkW d (cq 0) (rq 0) ck hd po st sl le ++ (ClW cq k th co bu tg wa se ld ++ (RqW rq k ow wr fi sz dl wt bl sh so tn sn un))) := hD
    refine lv_i2l (v := (nI (tn - sn)).toInt64) hx hb dX2_countOfDisk_64 rfl ?_
    exact retL hc dX2_countOfDisk_65 hK hP hD hS (⟨by rw [cdF, if_neg (by decide), if_pos rfl], rfl⟩) (Nat.le_of_ble_eq_true rfl) (Nat.le_of_ble_eq_true rfl)
  by_cases h2 : x = nI 2
  · subst h2
    refine lv_tableIn (off := 65) (tgt := 66) hx hb dX2_countOfDisk_1 (by decide) (by decide) (by decide) (by decide) ?_
    refine lv_aload_n hx hb dX2_countOfDisk_66 rfl (lv_at hl 0 rfl) ?_
    refine va_get (D := D) (ci := 2) (v := .ref (rq 0)) (C := RX2) (T := TX2) (N := 8) hx hb hts iwX2_countOfDisk_X2 hown hK hP 0 rfl rfl 1 (by decide) (hts (Cond.fieldLink RX2 19 "ShareDisk" "requests" "LShareDisk$Requests;") mwX2_countOfDisk_1) (fun _ h9 => h9) rfl dX2_countOfDisk_67 ?_
    refine goVI2 hc (kX1_served l D k rq s.heap.size ow wr fi sz dl wt bl sh so tn sn un) (cwV 0 hts gX2_countOfDisk_X1_served rfl rfl rfl (by decide +kernel) ⟨(Nat.le_of_ble_eq_true rfl), (Nat.le_of_ble_eq_true rfl)⟩) hP hD hK hS hA (ci := 1) (q0 := 0) rfl rfl rfl hl.1 rfl (Nat.le_of_ble_eq_true rfl) dX2_countOfDisk_70 (Nat.le_of_ble_eq_true rfl) (Nat.le_of_ble_eq_true rfl) (fun r9 B9 H locs hq hP hD hS => ?_)
    obtain ⟨hr9, rfl⟩ := hq
    subst hr9
    have hP : va_P D vwCl (DkW d (cq 0) (rq 0) ck hd po st sl le ++ (ClW cq k th co bu tg wa se ld ++ (RqW rq k ow wr fi sz dl wt bl sh so tn sn un))) H := hP
    have hD : va_D A (DkW d (cq 0) (rq 0) ck hd po st sl le ++ (ClW cq k th co bu tg wa se ld ++ (RqW rq k ow wr fi sz dl wt bl sh so tn sn un))) := hD
    refine lv_i2l (v := (nI sn).toInt64) hx hb dX2_countOfDisk_73 rfl ?_
    exact retL hc dX2_countOfDisk_74 hK hP hD hS (⟨by rw [cdF, if_neg (by decide), if_neg (by decide), if_pos rfl], rfl⟩) (Nat.le_of_ble_eq_true rfl) (Nat.le_of_ble_eq_true rfl)
  by_cases h3 : x = nI 3
  · subst h3
    refine lv_tableIn (off := 74) (tgt := 75) hx hb dX2_countOfDisk_1 (by decide) (by decide) (by decide) (by decide) ?_
    refine lv_aload_n hx hb dX2_countOfDisk_75 rfl (lv_at hl 0 rfl) ?_
    refine va_get (D := D) (ci := 2) (v := .ref (rq 0)) (C := RX2) (T := TX2) (N := 8) hx hb hts iwX2_countOfDisk_X2 hown hK hP 0 rfl rfl 1 (by decide) (hts (Cond.fieldLink RX2 19 "ShareDisk" "requests" "LShareDisk$Requests;") mwX2_countOfDisk_1) (fun _ h9 => h9) rfl dX2_countOfDisk_76 ?_
    refine goVI2 hc (kX1_urgent l D k rq s.heap.size ow wr fi sz dl wt bl sh so tn sn un) (cwV 0 hts gX2_countOfDisk_X1_urgent rfl rfl rfl (by decide +kernel) ⟨(Nat.le_of_ble_eq_true rfl), (Nat.le_of_ble_eq_true rfl)⟩) hP hD hK hS hA (ci := 1) (q0 := 0) rfl rfl rfl hl.1 rfl (Nat.le_of_ble_eq_true rfl) dX2_countOfDisk_79 (Nat.le_of_ble_eq_true rfl) (Nat.le_of_ble_eq_true rfl) (fun r9 B9 H locs hq hP hD hS => ?_)
    obtain ⟨hr9, rfl⟩ := hq
    subst hr9
    have hP : va_P D vwCl (DkW d (cq 0) (rq 0) ck hd po st sl le ++ (ClW cq k th co bu tg wa se ld ++ (RqW rq k ow wr fi sz dl wt bl sh so tn sn un))) H := hP
    have hD : va_D A (DkW d (cq 0) (rq 0) ck hd po st sl le ++ (ClW cq k th co bu tg wa se ld ++ (RqW rq k ow wr fi sz dl wt bl sh so tn sn un))) := hD
    refine lv_i2l (v := (nI un).toInt64) hx hb dX2_countOfDisk_82 rfl ?_
    exact retL hc dX2_countOfDisk_83 hK hP hD hS (⟨by rw [cdF, if_neg (by decide), if_neg (by decide), if_neg (by decide), if_pos rfl], rfl⟩) (Nat.le_of_ble_eq_true rfl) (Nat.le_of_ble_eq_true rfl)
  by_cases h4 : x = nI 4
  · subst h4
    refine lv_tableIn (off := 83) (tgt := 84) hx hb dX2_countOfDisk_1 (by decide) (by decide) (by decide) (by decide) ?_
    refine lv_aload_n hx hb dX2_countOfDisk_84 rfl (lv_at hl 0 rfl) ?_
    refine va_get (D := D) (ci := 2) (v := .int hd) (C := RX2) (T := TX2) (N := 8) hx hb hts iwX2_countOfDisk_X2 hown hK hP 0 rfl rfl 3 (by decide) (hts (Cond.fieldLink RX2 97 "ShareDisk" "head" "I") mwX2_countOfDisk_2) (fun _ h9 => h9) rfl dX2_countOfDisk_85 ?_
    refine lv_i2l (v := hd.toInt64) hx hb dX2_countOfDisk_88 rfl ?_
    exact retL hc dX2_countOfDisk_89 hK hP hD hS (⟨by rw [cdF, if_neg (by decide), if_neg (by decide), if_neg (by decide), if_neg (by decide), if_pos rfl], rfl⟩) (Nat.le_of_ble_eq_true rfl) (Nat.le_of_ble_eq_true rfl)
  by_cases h5 : x = nI 5
  · subst h5
    refine lv_tableIn (off := 89) (tgt := 90) hx hb dX2_countOfDisk_1 (by decide) (by decide) (by decide) (by decide) ?_
    refine lv_aload_n hx hb dX2_countOfDisk_90 rfl (lv_at hl 0 rfl) ?_
    refine va_get (D := D) (ci := 2) (v := .long po) (C := RX2) (T := TX2) (N := 8) hx hb hts iwX2_countOfDisk_X2 hown hK hP 0 rfl rfl 4 (by decide) (hts (Cond.fieldLink RX2 143 "ShareDisk" "passedOver" "J") mwX2_countOfDisk_3) (fun _ h9 => h9) rfl dX2_countOfDisk_91 ?_
    exact retL hc dX2_countOfDisk_94 hK hP hD hS (⟨by rw [cdF, if_neg (by decide), if_neg (by decide), if_neg (by decide), if_neg (by decide), if_neg (by decide), if_pos rfl], rfl⟩) (Nat.le_of_ble_eq_true rfl) (Nat.le_of_ble_eq_true rfl)
  by_cases h6 : x = nI 6
  · subst h6
    refine lv_tableIn (off := 94) (tgt := 95) hx hb dX2_countOfDisk_1 (by decide) (by decide) (by decide) (by decide) ?_
    refine lv_aload_n hx hb dX2_countOfDisk_95 rfl (lv_at hl 0 rfl) ?_
    refine va_get (D := D) (ci := 2) (v := .int sl) (C := RX2) (T := TX2) (N := 8) hx hb hts iwX2_countOfDisk_X2 hown hK hP 0 rfl rfl 6 (by decide) (hts (Cond.fieldLink RX2 23 "ShareDisk" "sliceOwner" "I") mwX2_countOfDisk_4) (fun _ h9 => h9) rfl dX2_countOfDisk_96 ?_
    refine lv_i2l (v := sl.toInt64) hx hb dX2_countOfDisk_99 rfl ?_
    exact retL hc dX2_countOfDisk_100 hK hP hD hS (⟨by rw [cdF, if_neg (by decide), if_neg (by decide), if_neg (by decide), if_neg (by decide), if_neg (by decide), if_neg (by decide), if_pos rfl], rfl⟩) (Nat.le_of_ble_eq_true rfl) (Nat.le_of_ble_eq_true rfl)
  by_cases h7 : x = nI 7
  · subst h7
    refine lv_tableIn (off := 100) (tgt := 101) hx hb dX2_countOfDisk_1 (by decide) (by decide) (by decide) (by decide) ?_
    refine lv_aload_n hx hb dX2_countOfDisk_101 rfl (lv_at hl 0 rfl) ?_
    refine va_get (D := D) (ci := 2) (v := .int le) (C := RX2) (T := TX2) (N := 8) hx hb hts iwX2_countOfDisk_X2 hown hK hP 0 rfl rfl 7 (by decide) (hts (Cond.fieldLink RX2 146 "ShareDisk" "sliceLeft" "I") mwX2_countOfDisk_5) (fun _ h9 => h9) rfl dX2_countOfDisk_102 ?_
    refine lv_i2l (v := le.toInt64) hx hb dX2_countOfDisk_105 rfl ?_
    exact retL hc dX2_countOfDisk_106 hK hP hD hS (⟨by rw [cdF, if_neg (by decide), if_neg (by decide), if_neg (by decide), if_neg (by decide), if_neg (by decide), if_neg (by decide), if_neg (by decide), if_pos rfl], rfl⟩) (Nat.le_of_ble_eq_true rfl) (Nat.le_of_ble_eq_true rfl)
  refine lv_tableOut (tgt := 107) hx hb dX2_countOfDisk_1 (tsw_out h0 h1 h2 h3 h4 h5 h6 h7) (by decide) ?_
  refine lv_ldc2 (v := (-1)) hx hb hown (hts (.constantLong RX2 149 (-1)) mwX2_countOfDisk_6) dX2_countOfDisk_107 ?_
  exact retL hc dX2_countOfDisk_110 hK hP hD hS (⟨by simp [cdF, h0, h1, h2, h3, h4, h5, h6, h7], rfl⟩) (Nat.le_of_ble_eq_true rfl) (Nat.le_of_ble_eq_true rfl)
theorem mwX2_count_0 : Cond.fieldLink RX2 10 "ShareDisk" "clients" "LShareDisk$Clients;" ∈ wsX2_count := by decide +kernel
theorem iwX2_count_X2 : ∀ w ∈ wsX20, w ∈ wsX2_count := by decide +kernel
set_option maxHeartbeats 4000000 in
set_option maxRecDepth 100000 in
theorem kX2_count (l : Launch) (D : va_G) (k : Nat → ClassId) (d : Nat) (cq : Nat → Nat) (rq : Nat → Nat) (zz : Nat) (ck : Int64) (hd : Int32) (po st : Int64) (sl le : Int32) (th co bu : Nat → Int32) (tg : Nat → Int64) (wa se : Nat → Int32) (ld : Nat → Nat → Int64) (ow wr fi sz : Nat → Int32) (dl : Nat → Int64) (wt bl sh so : Nat → Int32) (tn sn un : Nat) (x : Int32) (hsn : sn ≤ tn) : ML l yX2_count wsX2_count ({ frames := 2, cells := 0, slots := 0, locals := 43 } : Room) D k (DkW d (cq 0) (rq 0) ck hd po st sl le ++ (ClW cq k th co bu tg wa se ld ++ (RqW rq k ow wr fi sz dl wt bl sh so tn sn un))) zz [.ref d, .int x] (fun r9 w9 => r9 = (cnF th wa se tn sn un hd po sl le x) ∧ w9 = DkW d (cq 0) (rq 0) ck hd po st sl le ++ (ClW cq k th co bu tg wa se ld ++ (RqW rq k ow wr fi sz dl wt bl sh so tn sn un))) 0 0 := by
  refine bodyOf (Qc := fun A => QL D k (fun r9 w9 => r9 = (cnF th wa se tn sn un hd po sl le x) ∧ w9 = DkW d (cq 0) (rq 0) ck hd po st sl le ++ (ClW cq k th co bu tg wa se ld ++ (RqW rq k ow wr fi sz dl wt bl sh so tn sn un))) A) (cc := cX2_count) (maxL := 2) (ret := (some .long)) (by decide) rfl (Nat.le_of_ble_eq_true rfl) ?_
  intro p e s m below meth c A ls hc hA hK hP hD hS hl
  obtain ⟨hx, hb, hml, hr, hts, hown, hlocks, hin⟩ := (show _ from hc)
  have hl : lv_has ls 2 [(0, .ref d), (1, .int x)] := hl
  refine lv_iload_n hx hb dX2_count_0 rfl (lv_at hl 1 rfl) ?_
  refine lv_bipush (v := nI 8) hx hb dX2_count_1 (by decide) ?_
  refine lv_bipush (v := nI 15) hx hb dX2_count_3 (by decide) ?_
  refine goSI hc (kX2_isWithin l D k s.heap.size x (nI 8) (nI 15)) (va_cwS 3 hts gX2_count_X2_isWithin rfl rfl rfl (by decide +kernel) ⟨(Nat.le_of_ble_eq_true rfl), (Nat.le_of_ble_eq_true rfl)⟩) hP hD hK hS hA rfl hl.1 rfl (Nat.le_of_ble_eq_true rfl) dX2_count_5 (Nat.le_of_ble_eq_true rfl) (Nat.le_of_ble_eq_true rfl) (fun r9 B9 H locs hq hP hD hS => ?_)
  obtain ⟨hr9, -⟩ := hq
  subst hr9
  have hP : va_P D vwCl (DkW d (cq 0) (rq 0) ck hd po st sl le ++ (ClW cq k th co bu tg wa se ld ++ (RqW rq k ow wr fi sz dl wt bl sh so tn sn un))) H := hP
  have hD : va_D A (DkW d (cq 0) (rq 0) ck hd po st sl le ++ (ClW cq k th co bu tg wa se ld ++ (RqW rq k ow wr fi sz dl wt bl sh so tn sn un))) := hD
  refine lv_if_eq (tgt := 24) hx hb dX2_count_8 (by decide) (fun c1 => ?_) (fun c1 => ?_)
  · refine lv_iload_n hx hb dX2_count_24 rfl (lv_at hl 1 rfl) ?_
    refine lv_bipush (v := nI 16) hx hb dX2_count_25 (by decide) ?_
    refine lv_bipush (v := nI 23) hx hb dX2_count_27 (by decide) ?_
    refine goSI hc (kX2_isWithin l D k H.size x (nI 16) (nI 23)) (va_cwS 3 hts gX2_count_X2_isWithin rfl rfl rfl (by decide +kernel) ⟨(Nat.le_of_ble_eq_true rfl), (Nat.le_of_ble_eq_true rfl)⟩) hP hD hK hS hA rfl hl.1 rfl (Nat.le_of_ble_eq_true rfl) dX2_count_29 (Nat.le_of_ble_eq_true rfl) (Nat.le_of_ble_eq_true rfl) (fun r9 B9 H locs hq hP hD hS => ?_)
    obtain ⟨hr9, -⟩ := hq
    subst hr9
    have hP : va_P D vwCl (DkW d (cq 0) (rq 0) ck hd po st sl le ++ (ClW cq k th co bu tg wa se ld ++ (RqW rq k ow wr fi sz dl wt bl sh so tn sn un))) H := hP
    have hD : va_D A (DkW d (cq 0) (rq 0) ck hd po st sl le ++ (ClW cq k th co bu tg wa se ld ++ (RqW rq k ow wr fi sz dl wt bl sh so tn sn un))) := hD
    refine lv_if_eq (tgt := 48) hx hb dX2_count_32 (by decide) (fun c2 => ?_) (fun c2 => ?_)
    · refine lv_aload_n hx hb dX2_count_48 rfl (lv_at hl 0 rfl) ?_
      refine lv_iload_n hx hb dX2_count_49 rfl (lv_at hl 1 rfl) ?_
      refine goVL0 hc (kX2_countOfDisk l D k d cq rq H.size ck hd po st sl le th co bu tg wa se ld ow wr fi sz dl wt bl sh so tn sn un x (hsn)) (cwV 1 hts gX2_count_X2_countOfDisk rfl rfl rfl (by decide +kernel) ⟨(Nat.le_of_ble_eq_true rfl), (Nat.le_of_ble_eq_true rfl)⟩) hP hD hK hS hA (ci := 2) (q0 := 0) rfl rfl rfl hl.1 rfl (Nat.le_of_ble_eq_true rfl) dX2_count_50 (Nat.le_of_ble_eq_true rfl) (Nat.le_of_ble_eq_true rfl) (fun r9 B9 H locs hq hP hD hS => ?_)
      obtain ⟨hr9, rfl⟩ := hq
      subst hr9
      have hP : va_P D vwCl (DkW d (cq 0) (rq 0) ck hd po st sl le ++ (ClW cq k th co bu tg wa se ld ++ (RqW rq k ow wr fi sz dl wt bl sh so tn sn un))) H := hP
      have hD : va_D A (DkW d (cq 0) (rq 0) ck hd po st sl le ++ (ClW cq k th co bu tg wa se ld ++ (RqW rq k ow wr fi sz dl wt bl sh so tn sn un))) := hD
      exact retL hc dX2_count_53 hK hP hD hS (⟨by rw [cnF, if_neg (bI_0 c1), if_neg (bI_0 c2)], rfl⟩) (Nat.le_of_ble_eq_true rfl) (Nat.le_of_ble_eq_true rfl)
    · have hi9 := bI_1 c2
      obtain ⟨j, hj1, hj2, rfl⟩ := ofWd hi9 (by decide) (by decide)
      refine lv_aload_n hx hb dX2_count_35 rfl (lv_at hl 0 rfl) ?_
      refine va_get (D := D) (ci := 2) (v := .ref (cq 0)) (C := RX2) (T := TX2) (N := 8) hx hb hts iwX2_count_X2 hown hK hP 0 rfl rfl 0 (by decide) (hts (Cond.fieldLink RX2 10 "ShareDisk" "clients" "LShareDisk$Clients;") mwX2_count_0) (fun _ h9 => h9) rfl dX2_count_36 ?_
      refine lv_iload_n hx hb dX2_count_39 rfl (lv_at hl 1 rfl) ?_
      refine lv_bipush (v := nI 16) hx hb dX2_count_40 (by decide) ?_
      refine lv_isub hx hb dX2_count_42 ?_
      refine lv_topi (fun v ev => ?_)
      obtain rfl : v = nI (j - 16) := ev.trans (pk_sub hj1)
      refine goVI hc (kX0_waitingOf l D k cq H.size th co bu tg wa se ld (j - 16) (by omega)) (cwV 1 hts gX2_count_X0_waitingOf rfl rfl rfl (by decide +kernel) ⟨(Nat.le_of_ble_eq_true rfl), (Nat.le_of_ble_eq_true rfl)⟩) hP hD hK hS hA (ci := 0) (q0 := 0) rfl rfl rfl hl.1 rfl (Nat.le_of_ble_eq_true rfl) dX2_count_43 (Nat.le_of_ble_eq_true rfl) (Nat.le_of_ble_eq_true rfl) (fun r9 B9 H locs hq hP hD hS => ?_)
      obtain ⟨hr9, rfl⟩ := hq
      subst hr9
      have hP : va_P D vwCl (DkW d (cq 0) (rq 0) ck hd po st sl le ++ (ClW cq k th co bu tg wa se ld ++ (RqW rq k ow wr fi sz dl wt bl sh so tn sn un))) H := hP
      have hD : va_D A (DkW d (cq 0) (rq 0) ck hd po st sl le ++ (ClW cq k th co bu tg wa se ld ++ (RqW rq k ow wr fi sz dl wt bl sh so tn sn un))) := hD
      refine lv_i2l (v := (wa (j - 16)).toInt64) hx hb dX2_count_46 rfl ?_
      exact retL hc dX2_count_47 hK hP hD hS (⟨by rw [cnF, if_neg (bI_0 c1), if_pos hi9, nI_clamp (by omega)], rfl⟩) (Nat.le_of_ble_eq_true rfl) (Nat.le_of_ble_eq_true rfl)
  · have hi9 := bI_1 c1
    obtain ⟨j, hj1, hj2, rfl⟩ := ofWd hi9 (by decide) (by decide)
    refine lv_aload_n hx hb dX2_count_11 rfl (lv_at hl 0 rfl) ?_
    refine va_get (D := D) (ci := 2) (v := .ref (cq 0)) (C := RX2) (T := TX2) (N := 8) hx hb hts iwX2_count_X2 hown hK hP 0 rfl rfl 0 (by decide) (hts (Cond.fieldLink RX2 10 "ShareDisk" "clients" "LShareDisk$Clients;") mwX2_count_0) (fun _ h9 => h9) rfl dX2_count_12 ?_
    refine lv_iload_n hx hb dX2_count_15 rfl (lv_at hl 1 rfl) ?_
    refine lv_bipush (v := nI 8) hx hb dX2_count_16 (by decide) ?_
    refine lv_isub hx hb dX2_count_18 ?_
    refine lv_topi (fun v ev => ?_)
    obtain rfl : v = nI (j - 8) := ev.trans (pk_sub hj1)
    refine goVI hc (kX0_sectorsOf l D k cq H.size th co bu tg wa se ld (j - 8) (by omega)) (cwV 1 hts gX2_count_X0_sectorsOf rfl rfl rfl (by decide +kernel) ⟨(Nat.le_of_ble_eq_true rfl), (Nat.le_of_ble_eq_true rfl)⟩) hP hD hK hS hA (ci := 0) (q0 := 0) rfl rfl rfl hl.1 rfl (Nat.le_of_ble_eq_true rfl) dX2_count_19 (Nat.le_of_ble_eq_true rfl) (Nat.le_of_ble_eq_true rfl) (fun r9 B9 H locs hq hP hD hS => ?_)
    obtain ⟨hr9, rfl⟩ := hq
    subst hr9
    have hP : va_P D vwCl (DkW d (cq 0) (rq 0) ck hd po st sl le ++ (ClW cq k th co bu tg wa se ld ++ (RqW rq k ow wr fi sz dl wt bl sh so tn sn un))) H := hP
    have hD : va_D A (DkW d (cq 0) (rq 0) ck hd po st sl le ++ (ClW cq k th co bu tg wa se ld ++ (RqW rq k ow wr fi sz dl wt bl sh so tn sn un))) := hD
    refine lv_i2l (v := (se (j - 8)).toInt64) hx hb dX2_count_22 rfl ?_
    exact retL hc dX2_count_23 hK hP hD hS (⟨by rw [cnF, if_pos hi9, nI_clamp (by omega)], rfl⟩) (Nat.le_of_ble_eq_true rfl) (Nat.le_of_ble_eq_true rfl)
