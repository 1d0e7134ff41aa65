theorem mwX3_serve_0 : Cond.fieldLink RX3 33 "ShareDiskModel" "clientOf" "[I" ∈ wsX3_serve := by decide +kernel
theorem mwX3_serve_1 : Cond.fieldLink RX3 141 "ShareDiskModel" "passed" "J" ∈ wsX3_serve := by decide +kernel
theorem mwX3_serve_2 : Cond.fieldLink RX3 107 "ShareDiskModel" "clock" "J" ∈ wsX3_serve := by decide +kernel
theorem mwX3_serve_3 : Cond.fieldLink RX3 39 "ShareDiskModel" "counts" "[I" ∈ wsX3_serve := by decide +kernel
theorem mwX3_serve_4 : Cond.fieldLink RX3 36 "ShareDiskModel" "first" "[I" ∈ wsX3_serve := by decide +kernel
theorem mwX3_serve_5 : Cond.fieldLink RX3 120 "ShareDiskModel" "head" "I" ∈ wsX3_serve := by decide +kernel
theorem mwX3_serve_6 : Cond.fieldLink RX3 48 "ShareDiskModel" "done" "[Z" ∈ wsX3_serve := by decide +kernel
theorem mwX3_serve_7 : Cond.fieldLink RX3 51 "ShareDiskModel" "urgent" "[Z" ∈ wsX3_serve := by decide +kernel
theorem mwX3_serve_8 : Cond.fieldLink RX3 42 "ShareDiskModel" "order" "[I" ∈ wsX3_serve := by decide +kernel
theorem mwX3_serve_9 : Cond.fieldLink RX3 124 "ShareDiskModel" "served" "I" ∈ wsX3_serve := by decide +kernel
theorem mwX3_serve_10 : Cond.constantLong RX3 147 (27720) ∈ wsX3_serve := by decide +kernel
theorem mwX3_serve_11 : Cond.fieldLink RX3 13 "ShareDiskModel" "weights" "[I" ∈ wsX3_serve := by decide +kernel
theorem mwX3_serve_12 : Cond.fieldLink RX3 20 "ShareDiskModel" "tags" "[J" ∈ wsX3_serve := by decide +kernel
theorem mwX3_serve_13 : Cond.fieldLink RX3 27 "ShareDiskModel" "grown" "[J" ∈ wsX3_serve := by decide +kernel
theorem mwX3_serve_14 : Cond.fieldLink RX3 24 "ShareDiskModel" "sectors" "[J" ∈ wsX3_serve := by decide +kernel
theorem mwX3_serve_15 : Cond.fieldLink RX3 70 "ShareDiskModel" "tickets" "I" ∈ wsX3_serve := by decide +kernel
theorem mwX3_serve_16 : Cond.fieldLink RX3 7 "ShareDiskModel" "there" "[Z" ∈ wsX3_serve := by decide +kernel
theorem mwX3_serve_17 : Cond.fieldLink RX3 57 "ShareDiskModel" "slice" "I" ∈ wsX3_serve := by decide +kernel
theorem mwX3_serve_18 : Cond.fieldLink RX3 92 "ShareDiskModel" "left" "I" ∈ wsX3_serve := by decide +kernel
theorem mwX3_serve_19 : Cond.fieldLink RX3 144 "ShareDiskModel" "urgents" "I" ∈ wsX3_serve := by decide +kernel
theorem iwX3_serve_X3 : ∀ w ∈ wsX30, w ∈ wsX3_serve := by decide +kernel
set_option maxHeartbeats 4000000 in
set_option maxRecDepth 100000 in
theorem kX3_serve (l : Launch) (D : va_G) (k : Nat → ClassId) (q : Nat → Nat) (zz : Nat) (tr : Int32) (ck : Int64) (hd : Int32) (po : Int64) (th we bu : Nat → Int32) (tg se gr ba : Nat → Int64) (tn sn un : Nat) (ow fi sz so wr dn ur : Nat → Int32) (dl : Nat → Int64) (sl le : Int32) (t : Nat) (w : Int32) (o : Nat) (ht : t < tn) (htn : tn ≤ 500) (hsn : sn < tn) (ho : o < 8) (how : ow t = nI o) (hwe : ¬ (we o).toInt64 = 0) (hw : w = 0 ∨ w = 1) : MV l yX3_serve wsX3_serve ({ frames := 1, cells := 0, slots := 0, locals := 23 } : Room) D k (MoW q k tr ck hd po th we bu tg se gr ba tn sn un ow fi sz so wr dn ur dl sl le) zz [.ref (q 0), .int (nI t), .int w] (fun w9 => w9 = MoW q k tr (ck + (waF fi hd t / nI 100 + sz t).toInt64) (fi t + sz t) (po + (waF fi hd t).toInt64) th we bu (if sn + 1 = tn then smT th (vp_updL tg o (tg o + (27720) * (sz t).toInt64 / (we o).toInt64)) 8 else vp_updL tg o (tg o + (27720) * (sz t).toInt64 / (we o).toInt64)) (vp_updL se o (se o + (sz t).toInt64)) (vp_updL gr o (gr o + (27720) * (sz t).toInt64 / (we o).toInt64)) ba tn (sn + 1) (if w = 0 then un else un + 1) ow fi sz (upd so sn (nI t)) wr (upd dn t (nI 1)) (upd ur t w) dl (if sl = nI o ∧ ((if sl = nI o then le - sz t else le) ≤ 0 ∨ nI (wcN (upd dn t (nI 1)) ow (nI o) tn) = 0) then (-1) else sl) (if sl = nI o ∧ ((if sl = nI o then le - sz t else le) ≤ 0 ∨ nI (wcN (upd dn t (nI 1)) ow (nI o) tn) = 0) then nI 0 else (if sl = nI o then le - sz t else le))) 0 0 := by
  refine bodyOf (Qc := fun A => QV D k (fun w9 => w9 = MoW q k tr (ck + (waF fi hd t / nI 100 + sz t).toInt64) (fi t + sz t) (po + (waF fi hd t).toInt64) th we bu (if sn + 1 = tn then smT th (vp_updL tg o (tg o + (27720) * (sz t).toInt64 / (we o).toInt64)) 8 else vp_updL tg o (tg o + (27720) * (sz t).toInt64 / (we o).toInt64)) (vp_updL se o (se o + (sz t).toInt64)) (vp_updL gr o (gr o + (27720) * (sz t).toInt64 / (we o).toInt64)) ba tn (sn + 1) (if w = 0 then un else un + 1) ow fi sz (upd so sn (nI t)) wr (upd dn t (nI 1)) (upd ur t w) dl (if sl = nI o ∧ ((if sl = nI o then le - sz t else le) ≤ 0 ∨ nI (wcN (upd dn t (nI 1)) ow (nI o) tn) = 0) then (-1) else sl) (if sl = nI o ∧ ((if sl = nI o then le - sz t else le) ≤ 0 ∨ nI (wcN (upd dn t (nI 1)) ow (nI o) tn) = 0) then nI 0 else (if sl = nI o then le - sz t else le))) A) (cc := cX3_serve) (maxL := 8) (ret := none) (by decide) rfl (Nat.le_of_ble_eq_true rfl) ?_
  intro p e s m below meth c A ls hc hA hK hP hD hS hl
  obtain ⟨hx, hb, hml, hr, hts, hown, hlocks, hin⟩ := (show _ from hc)
  have hl : lv_has ls 8 [(0, .ref (q 0)), (1, .int (nI t)), (2, .int w)] := hl
  refine lv_aload_n hx hb dX3_serve_0 rfl (lv_at hl 0 rfl) ?_
  refine va_get (D := D) (ci := 3) (v := .ref (q 8)) (C := RX3) (T := TX3) (N := 24) hx hb hts iwX3_serve_X3 hown hK hP 0 rfl rfl 14 (by decide) (hts (Cond.fieldLink RX3 33 "ShareDiskModel" "clientOf" "[I") mwX3_serve_0) (fun _ h9 => h9) rfl dX3_serve_1 ?_
  refine lv_iload_n hx hb dX3_serve_4 rfl (lv_at hl 1 rfl) ?_
  refine aI hx hb hK hP 8 1 rfl rfl (ix5 (by omega)) dX3_serve_5 ?_
  rw [how]
  refine lv_istore_n (lv' := [(3, .int (nI o)), (0, .ref (q 0)), (1, .int (nI t)), (2, .int w)]) hx hb dX3_serve_6 rfl hl (by decide) rfl (fun ls hl => ?_)
  have cut47 : ∀ (v : Int32) (H : Heap) (locs : List Loc) (ls : Array Slot), (v = waF fi hd t) → va_P D vwCl (MoW q k tr ck hd po th we bu tg se gr ba tn sn un ow fi sz so wr dn ur dl sl le) H → va_D A (MoW q k tr ck hd po th we bu tg se gr ba tn sn un ow fi sz so wr dn ur dl sl le) → va_S A s.heap H locs → lv_has ls 8 [(0, .ref (q 0)), (1, .int (nI t)), (2, .int w), (3, .int (nI o)), (4, .int v)] → W p l e ({ frames := 1, cells := 0, slots := 0, locals := 23 } : Room) s m [.ref (q 0), .int (nI t), .int w].toArray below meth c H locs 0 0 (MQ below (QV D k (fun w9 => w9 = MoW q k tr (ck + (waF fi hd t / nI 100 + sz t).toInt64) (fi t + sz t) (po + (waF fi hd t).toInt64) th we bu (if sn + 1 = tn then smT th (vp_updL tg o (tg o + (27720) * (sz t).toInt64 / (we o).toInt64)) 8 else vp_updL tg o (tg o + (27720) * (sz t).toInt64 / (we o).toInt64)) (vp_updL se o (se o + (sz t).toInt64)) (vp_updL gr o (gr o + (27720) * (sz t).toInt64 / (we o).toInt64)) ba tn (sn + 1) (if w = 0 then un else un + 1) ow fi sz (upd so sn (nI t)) wr (upd dn t (nI 1)) (upd ur t w) dl (if sl = nI o ∧ ((if sl = nI o then le - sz t else le) ≤ 0 ∨ nI (wcN (upd dn t (nI 1)) ow (nI o) tn) = 0) then (-1) else sl) (if sl = nI o ∧ ((if sl = nI o then le - sz t else le) ≤ 0 ∨ nI (wcN (upd dn t (nI 1)) ow (nI o) tn) = 0) then nI 0 else (if sl = nI o then le - sz t else le))) A) [.ref (q 0), .int (nI t), .int w].toArray s 0 0 A) (F0 m 47 ls []) := by
    intro v H locs ls hv hP hD hS hl
    refine lv_aload_n hx hb dX3_serve_47 rfl (lv_at hl 0 rfl) ?_
    refine lv_dup hx hb dX3_serve_48 rfl ?_
    refine va_get (D := D) (ci := 3) (v := .long po) (C := RX3) (T := TX3) (N := 24) hx hb hts iwX3_serve_X3 hown hK hP 0 rfl rfl 3 (by decide) (hts (Cond.fieldLink RX3 141 "ShareDiskModel" "passed" "J") mwX3_serve_1) (fun _ h9 => h9) rfl dX3_serve_49 ?_
    refine lv_iload hx hb dX3_serve_52 (lv_at hl 4 rfl) ?_
    refine lv_i2l (v := v.toInt64) hx hb dX3_serve_54 rfl ?_
    refine lv_ladd hx hb dX3_serve_55 ?_
    refine va_put (D := D) (ci := 3) (v := .long (po + v.toInt64)) (ty := .long) (C := RX3) (T := TX3) (N := 24) hx hb hts iwX3_serve_X3 tyX3 tyX3_ok nmX3 hown hK hP hD hS 0 rfl rfl 3 (by decide) (hts (Cond.fieldLink RX3 141 "ShareDiskModel" "passed" "J") mwX3_serve_1) (fun _ h9 => h9) rfl (by decide +kernel) rfl rfl (Nat.le_of_ble_eq_true rfl) dX3_serve_56 (fun H locs hP hD hS => ?_)
    have hP : va_P D vwCl (MoW q k tr ck hd (po + v.toInt64) th we bu tg se gr ba tn sn un ow fi sz so wr dn ur dl sl le) H := hP
    have hD : va_D A (MoW q k tr ck hd (po + v.toInt64) th we bu tg se gr ba tn sn un ow fi sz so wr dn ur dl sl le) := hD
    refine lv_aload_n hx hb dX3_serve_59 rfl (lv_at hl 0 rfl) ?_
    refine lv_dup hx hb dX3_serve_60 rfl ?_
    refine va_get (D := D) (ci := 3) (v := .long ck) (C := RX3) (T := TX3) (N := 24) hx hb hts iwX3_serve_X3 hown hK hP 0 rfl rfl 1 (by decide) (hts (Cond.fieldLink RX3 107 "ShareDiskModel" "clock" "J") mwX3_serve_2) (fun _ h9 => h9) rfl dX3_serve_61 ?_
    refine lv_iload hx hb dX3_serve_64 (lv_at hl 4 rfl) ?_
    refine lv_bipush (v := nI 100) hx hb dX3_serve_66 (by decide) ?_
    refine lv_idiv hx hb dX3_serve_68 (by decide) ?_
    refine lv_aload_n hx hb dX3_serve_69 rfl (lv_at hl 0 rfl) ?_
    refine va_get (D := D) (ci := 3) (v := .ref (q 10)) (C := RX3) (T := TX3) (N := 24) hx hb hts iwX3_serve_X3 hown hK hP 0 rfl rfl 16 (by decide) (hts (Cond.fieldLink RX3 39 "ShareDiskModel" "counts" "[I") mwX3_serve_3) (fun _ h9 => h9) rfl dX3_serve_70 ?_
    refine lv_iload_n hx hb dX3_serve_73 rfl (lv_at hl 1 rfl) ?_
    refine aI hx hb hK hP 10 1 rfl rfl (ix5 (by omega)) dX3_serve_74 ?_
    refine lv_iadd hx hb dX3_serve_75 ?_
    refine lv_i2l (v := ((v / (nI 100)) + (sz t)).toInt64) hx hb dX3_serve_76 rfl ?_
    refine lv_ladd hx hb dX3_serve_77 ?_
    refine va_put (D := D) (ci := 3) (v := .long (ck + (((v / (nI 100)) + (sz t)).toInt64))) (ty := .long) (C := RX3) (T := TX3) (N := 24) hx hb hts iwX3_serve_X3 tyX3 tyX3_ok nmX3 hown hK hP hD hS 0 rfl rfl 1 (by decide) (hts (Cond.fieldLink RX3 107 "ShareDiskModel" "clock" "J") mwX3_serve_2) (fun _ h9 => h9) rfl (by decide +kernel) rfl rfl (Nat.le_of_ble_eq_true rfl) dX3_serve_78 (fun H locs hP hD hS => ?_)
    have hP : va_P D vwCl (MoW q k tr (ck + (((v / (nI 100)) + (sz t)).toInt64)) hd (po + v.toInt64) th we bu tg se gr ba tn sn un ow fi sz so wr dn ur dl sl le) H := hP
    have hD : va_D A (MoW q k tr (ck + (((v / (nI 100)) + (sz t)).toInt64)) hd (po + v.toInt64) th we bu tg se gr ba tn sn un ow fi sz so wr dn ur dl sl le) := hD
    refine lv_aload_n hx hb dX3_serve_81 rfl (lv_at hl 0 rfl) ?_
    refine lv_aload_n hx hb dX3_serve_82 rfl (lv_at hl 0 rfl) ?_
    refine va_get (D := D) (ci := 3) (v := .ref (q 9)) (C := RX3) (T := TX3) (N := 24) hx hb hts iwX3_serve_X3 hown hK hP 0 rfl rfl 15 (by decide) (hts (Cond.fieldLink RX3 36 "ShareDiskModel" "first" "[I") mwX3_serve_4) (fun _ h9 => h9) rfl dX3_serve_83 ?_
    refine lv_iload_n hx hb dX3_serve_86 rfl (lv_at hl 1 rfl) ?_
    refine aI hx hb hK hP 9 1 rfl rfl (ix5 (by omega)) dX3_serve_87 ?_
    refine lv_aload_n hx hb dX3_serve_88 rfl (lv_at hl 0 rfl) ?_
    refine va_get (D := D) (ci := 3) (v := .ref (q 10)) (C := RX3) (T := TX3) (N := 24) hx hb hts iwX3_serve_X3 hown hK hP 0 rfl rfl 16 (by decide) (hts (Cond.fieldLink RX3 39 "ShareDiskModel" "counts" "[I") mwX3_serve_3) (fun _ h9 => h9) rfl dX3_serve_89 ?_
    refine lv_iload_n hx hb dX3_serve_92 rfl (lv_at hl 1 rfl) ?_
    refine aI hx hb hK hP 10 1 rfl rfl (ix5 (by omega)) dX3_serve_93 ?_
    refine lv_iadd hx hb dX3_serve_94 ?_
    refine va_put (D := D) (ci := 3) (v := .int ((fi t) + (sz t))) (ty := .int) (C := RX3) (T := TX3) (N := 24) hx hb hts iwX3_serve_X3 tyX3 tyX3_ok nmX3 hown hK hP hD hS 0 rfl rfl 2 (by decide) (hts (Cond.fieldLink RX3 120 "ShareDiskModel" "head" "I") mwX3_serve_5) (fun _ h9 => h9) rfl (by decide +kernel) rfl rfl (Nat.le_of_ble_eq_true rfl) dX3_serve_95 (fun H locs hP hD hS => ?_)
    have hP : va_P D vwCl (MoW q k tr (ck + (((v / (nI 100)) + (sz t)).toInt64)) ((fi t) + (sz t)) (po + v.toInt64) th we bu tg se gr ba tn sn un ow fi sz so wr dn ur dl sl le) H := hP
    have hD : va_D A (MoW q k tr (ck + (((v / (nI 100)) + (sz t)).toInt64)) ((fi t) + (sz t)) (po + v.toInt64) th we bu tg se gr ba tn sn un ow fi sz so wr dn ur dl sl le) := hD
    refine lv_aload_n hx hb dX3_serve_98 rfl (lv_at hl 0 rfl) ?_
    refine va_get (D := D) (ci := 3) (v := .ref (q 13)) (C := RX3) (T := TX3) (N := 24) hx hb hts iwX3_serve_X3 hown hK hP 0 rfl rfl 19 (by decide) (hts (Cond.fieldLink RX3 48 "ShareDiskModel" "done" "[Z") mwX3_serve_6) (fun _ h9 => h9) rfl dX3_serve_99 ?_
    refine lv_iload_n hx hb dX3_serve_102 rfl (lv_at hl 1 rfl) ?_
    refine lv_iconst (v := nI 1) hx hb dX3_serve_103 (by decide) ?_
    refine sZ hx hb hK hP hD hS 13 0 rfl rfl (ix5 (by omega)) (Or.inr rfl) dX3_serve_104 (fun H locs hP hD hS => ?_)
    have hP : va_P D vwCl (MoW q k tr (ck + (((v / (nI 100)) + (sz t)).toInt64)) ((fi t) + (sz t)) (po + v.toInt64) th we bu tg se gr ba tn sn un ow fi sz so wr (upd dn t (nI 1)) ur dl sl le) H := hP
    have hD : va_D A (MoW q k tr (ck + (((v / (nI 100)) + (sz t)).toInt64)) ((fi t) + (sz t)) (po + v.toInt64) th we bu tg se gr ba tn sn un ow fi sz so wr (upd dn t (nI 1)) ur dl sl le) := hD
    refine lv_aload_n hx hb dX3_serve_105 rfl (lv_at hl 0 rfl) ?_
    refine va_get (D := D) (ci := 3) (v := .ref (q 14)) (C := RX3) (T := TX3) (N := 24) hx hb hts iwX3_serve_X3 hown hK hP 0 rfl rfl 20 (by decide) (hts (Cond.fieldLink RX3 51 "ShareDiskModel" "urgent" "[Z") mwX3_serve_7) (fun _ h9 => h9) rfl dX3_serve_106 ?_
    refine lv_iload_n hx hb dX3_serve_109 rfl (lv_at hl 1 rfl) ?_
    refine lv_iload_n hx hb dX3_serve_110 rfl (lv_at hl 2 rfl) ?_
    refine sZ hx hb hK hP hD hS 14 0 rfl rfl (ix5 (by omega)) hw dX3_serve_111 (fun H locs hP hD hS => ?_)
    have hP : va_P D vwCl (MoW q k tr (ck + (((v / (nI 100)) + (sz t)).toInt64)) ((fi t) + (sz t)) (po + v.toInt64) th we bu tg se gr ba tn sn un ow fi sz so wr (upd dn t (nI 1)) (upd ur t w) dl sl le) H := hP
    have hD : va_D A (MoW q k tr (ck + (((v / (nI 100)) + (sz t)).toInt64)) ((fi t) + (sz t)) (po + v.toInt64) th we bu tg se gr ba tn sn un ow fi sz so wr (upd dn t (nI 1)) (upd ur t w) dl sl le) := hD
    have cut130 : ∀ (u : Nat) (H : Heap) (locs : List Loc) (ls : Array Slot), (u = if w = 0 then un else un + 1) → va_P D vwCl (MoW q k tr (ck + (((v / (nI 100)) + (sz t)).toInt64)) ((fi t) + (sz t)) (po + v.toInt64) th we bu tg se gr ba tn sn u ow fi sz so wr (upd dn t (nI 1)) (upd ur t w) dl sl le) H → va_D A (MoW q k tr (ck + (((v / (nI 100)) + (sz t)).toInt64)) ((fi t) + (sz t)) (po + v.toInt64) th we bu tg se gr ba tn sn u ow fi sz so wr (upd dn t (nI 1)) (upd ur t w) dl sl le) → va_S A s.heap H locs → lv_has ls 8 [(0, .ref (q 0)), (1, .int (nI t)), (2, .int w), (3, .int (nI o)), (4, .int v)] → W p l e ({ frames := 1, cells := 0, slots := 0, locals := 23 } : Room) s m [.ref (q 0), .int (nI t), .int w].toArray below meth c H locs 0 0 (MQ below (QV D k (fun w9 => w9 = MoW q k tr (ck + (waF fi hd t / nI 100 + sz t).toInt64) (fi t + sz t) (po + (waF fi hd t).toInt64) th we bu (if sn + 1 = tn then smT th (vp_updL tg o (tg o + (27720) * (sz t).toInt64 / (we o).toInt64)) 8 else vp_updL tg o (tg o + (27720) * (sz t).toInt64 / (we o).toInt64)) (vp_updL se o (se o + (sz t).toInt64)) (vp_updL gr o (gr o + (27720) * (sz t).toInt64 / (we o).toInt64)) ba tn (sn + 1) (if w = 0 then un else un + 1) ow fi sz (upd so sn (nI t)) wr (upd dn t (nI 1)) (upd ur t w) dl (if sl = nI o ∧ ((if sl = nI o then le - sz t else le) ≤ 0 ∨ nI (wcN (upd dn t (nI 1)) ow (nI o) tn) = 0) then (-1) else sl) (if sl = nI o ∧ ((if sl = nI o then le - sz t else le) ≤ 0 ∨ nI (wcN (upd dn t (nI 1)) ow (nI o) tn) = 0) then nI 0 else (if sl = nI o then le - sz t else le))) A) [.ref (q 0), .int (nI t), .int w].toArray s 0 0 A) (F0 m 130 ls []) := by
      intro u H locs ls hu hP hD hS hl
      refine lv_aload_n hx hb dX3_serve_130 rfl (lv_at hl 0 rfl) ?_
      refine va_get (D := D) (ci := 3) (v := .ref (q 11)) (C := RX3) (T := TX3) (N := 24) hx hb hts iwX3_serve_X3 hown hK hP 0 rfl rfl 17 (by decide) (hts (Cond.fieldLink RX3 42 "ShareDiskModel" "order" "[I") mwX3_serve_8) (fun _ h9 => h9) rfl dX3_serve_131 ?_
      refine lv_aload_n hx hb dX3_serve_134 rfl (lv_at hl 0 rfl) ?_
      refine va_get (D := D) (ci := 3) (v := .int (nI sn)) (C := RX3) (T := TX3) (N := 24) hx hb hts iwX3_serve_X3 hown hK hP 0 rfl rfl 12 (by decide) (hts (Cond.fieldLink RX3 124 "ShareDiskModel" "served" "I") mwX3_serve_9) (fun _ h9 => h9) rfl dX3_serve_135 ?_
      refine lv_iload_n hx hb dX3_serve_138 rfl (lv_at hl 1 rfl) ?_
      refine sI hx hb hK hP hD hS 11 1 rfl rfl (ix5 (by omega)) dX3_serve_139 (fun H locs hP hD hS => ?_)
      have hP : va_P D vwCl (MoW q k tr (ck + (((v / (nI 100)) + (sz t)).toInt64)) ((fi t) + (sz t)) (po + v.toInt64) th we bu tg se gr ba tn sn u ow fi sz (upd so sn (nI t)) wr (upd dn t (nI 1)) (upd ur t w) dl sl le) H := hP
      have hD : va_D A (MoW q k tr (ck + (((v / (nI 100)) + (sz t)).toInt64)) ((fi t) + (sz t)) (po + v.toInt64) th we bu tg se gr ba tn sn u ow fi sz (upd so sn (nI t)) wr (upd dn t (nI 1)) (upd ur t w) dl sl le) := hD
      refine lv_aload_n hx hb dX3_serve_140 rfl (lv_at hl 0 rfl) ?_
      refine lv_dup hx hb dX3_serve_141 rfl ?_
      refine va_get (D := D) (ci := 3) (v := .int (nI sn)) (C := RX3) (T := TX3) (N := 24) hx hb hts iwX3_serve_X3 hown hK hP 0 rfl rfl 12 (by decide) (hts (Cond.fieldLink RX3 124 "ShareDiskModel" "served" "I") mwX3_serve_9) (fun _ h9 => h9) rfl dX3_serve_142 ?_
      refine lv_iconst (v := nI 1) hx hb dX3_serve_145 (by decide) ?_
      refine nadd hx hb dX3_serve_146 ?_
      refine va_put (D := D) (ci := 3) (v := .int (nI (sn + 1))) (ty := .int) (C := RX3) (T := TX3) (N := 24) hx hb hts iwX3_serve_X3 tyX3 tyX3_ok nmX3 hown hK hP hD hS 0 rfl rfl 12 (by decide) (hts (Cond.fieldLink RX3 124 "ShareDiskModel" "served" "I") mwX3_serve_9) (fun _ h9 => h9) rfl (by decide +kernel) rfl rfl (Nat.le_of_ble_eq_true rfl) dX3_serve_147 (fun H locs hP hD hS => ?_)
      have hP : va_P D vwCl (MoW q k tr (ck + (((v / (nI 100)) + (sz t)).toInt64)) ((fi t) + (sz t)) (po + v.toInt64) th we bu tg se gr ba tn (sn + 1) u ow fi sz (upd so sn (nI t)) wr (upd dn t (nI 1)) (upd ur t w) dl sl le) H := hP
      have hD : va_D A (MoW q k tr (ck + (((v / (nI 100)) + (sz t)).toInt64)) ((fi t) + (sz t)) (po + v.toInt64) th we bu tg se gr ba tn (sn + 1) u ow fi sz (upd so sn (nI t)) wr (upd dn t (nI 1)) (upd ur t w) dl sl le) := hD
      refine lv_ldc2 (v := (27720)) hx hb hown (hts (.constantLong RX3 147 (27720)) mwX3_serve_10) dX3_serve_150 ?_
      refine lv_aload_n hx hb dX3_serve_153 rfl (lv_at hl 0 rfl) ?_
      refine va_get (D := D) (ci := 3) (v := .ref (q 10)) (C := RX3) (T := TX3) (N := 24) hx hb hts iwX3_serve_X3 hown hK hP 0 rfl rfl 16 (by decide) (hts (Cond.fieldLink RX3 39 "ShareDiskModel" "counts" "[I") mwX3_serve_3) (fun _ h9 => h9) rfl dX3_serve_154 ?_
      refine lv_iload_n hx hb dX3_serve_157 rfl (lv_at hl 1 rfl) ?_
      refine aI hx hb hK hP 10 1 rfl rfl (ix5 (by omega)) dX3_serve_158 ?_
      refine lv_i2l (v := (sz t).toInt64) hx hb dX3_serve_159 rfl ?_
      refine lv_lmul hx hb dX3_serve_160 ?_
      refine lv_aload_n hx hb dX3_serve_161 rfl (lv_at hl 0 rfl) ?_
      refine va_get (D := D) (ci := 3) (v := .ref (q 2)) (C := RX3) (T := TX3) (N := 24) hx hb hts iwX3_serve_X3 hown hK hP 0 rfl rfl 5 (by decide) (hts (Cond.fieldLink RX3 13 "ShareDiskModel" "weights" "[I") mwX3_serve_11) (fun _ h9 => h9) rfl dX3_serve_162 ?_
      refine lv_iload_n hx hb dX3_serve_165 rfl (lv_at hl 3 rfl) ?_
      refine aI hx hb hK hP 2 1 rfl rfl (ix8 (by omega)) dX3_serve_166 ?_
      refine lv_i2l (v := (we o).toInt64) hx hb dX3_serve_167 rfl ?_
      refine lv_ldiv hx hb dX3_serve_168 (hwe) ?_
      refine lv_lstore (lv' := [(5, .long (((27720) * ((sz t).toInt64)) / ((we o).toInt64))), (0, .ref (q 0)), (1, .int (nI t)), (2, .int w), (3, .int (nI o)), (4, .int v)]) hx hb dX3_serve_169 hl (by decide) rfl (fun ls hl => ?_)
      refine lv_aload_n hx hb dX3_serve_171 rfl (lv_at hl 1 rfl) ?_
      refine va_get (D := D) (ci := 3) (v := .ref (q 4)) (C := RX3) (T := TX3) (N := 24) hx hb hts iwX3_serve_X3 hown hK hP 0 rfl rfl 7 (by decide) (hts (Cond.fieldLink RX3 20 "ShareDiskModel" "tags" "[J") mwX3_serve_12) (fun _ h9 => h9) rfl dX3_serve_172 ?_
      refine lv_iload_n hx hb dX3_serve_175 rfl (lv_at hl 4 rfl) ?_
      refine lv_dup2_11 hx hb dX3_serve_176 rfl rfl ?_
      refine aJ hx hb hK hP 4 2 rfl rfl (ix9 (by omega)) dX3_serve_177 ?_
      refine lv_lload hx hb dX3_serve_178 (lv_at hl 0 rfl) ?_
      refine lv_ladd hx hb dX3_serve_180 ?_
      refine sJ hx hb hK hP hD hS 4 2 rfl rfl (ix9 (by omega)) dX3_serve_181 (fun H locs hP hD hS => ?_)
      have hP : va_P D vwCl (MoW q k tr (ck + (((v / (nI 100)) + (sz t)).toInt64)) ((fi t) + (sz t)) (po + v.toInt64) th we bu (vp_updL tg o ((tg o) + (((27720) * ((sz t).toInt64)) / ((we o).toInt64)))) se gr ba tn (sn + 1) u ow fi sz (upd so sn (nI t)) wr (upd dn t (nI 1)) (upd ur t w) dl sl le) H := hP
      have hD : va_D A (MoW q k tr (ck + (((v / (nI 100)) + (sz t)).toInt64)) ((fi t) + (sz t)) (po + v.toInt64) th we bu (vp_updL tg o ((tg o) + (((27720) * ((sz t).toInt64)) / ((we o).toInt64)))) se gr ba tn (sn + 1) u ow fi sz (upd so sn (nI t)) wr (upd dn t (nI 1)) (upd ur t w) dl sl le) := hD
      refine lv_aload_n hx hb dX3_serve_182 rfl (lv_at hl 1 rfl) ?_
      refine va_get (D := D) (ci := 3) (v := .ref (q 6)) (C := RX3) (T := TX3) (N := 24) hx hb hts iwX3_serve_X3 hown hK hP 0 rfl rfl 9 (by decide) (hts (Cond.fieldLink RX3 27 "ShareDiskModel" "grown" "[J") mwX3_serve_13) (fun _ h9 => h9) rfl dX3_serve_183 ?_
      refine lv_iload_n hx hb dX3_serve_186 rfl (lv_at hl 4 rfl) ?_
      refine lv_dup2_11 hx hb dX3_serve_187 rfl rfl ?_
      refine aJ hx hb hK hP 6 2 rfl rfl (ix8 (by omega)) dX3_serve_188 ?_
      refine lv_lload hx hb dX3_serve_189 (lv_at hl 0 rfl) ?_
      refine lv_ladd hx hb dX3_serve_191 ?_
      refine sJ hx hb hK hP hD hS 6 2 rfl rfl (ix8 (by omega)) dX3_serve_192 (fun H locs hP hD hS => ?_)
      have hP : va_P D vwCl (MoW q k tr (ck + (((v / (nI 100)) + (sz t)).toInt64)) ((fi t) + (sz t)) (po + v.toInt64) th we bu (vp_updL tg o ((tg o) + (((27720) * ((sz t).toInt64)) / ((we o).toInt64)))) se (vp_updL gr o ((gr o) + (((27720) * ((sz t).toInt64)) / ((we o).toInt64)))) ba tn (sn + 1) u ow fi sz (upd so sn (nI t)) wr (upd dn t (nI 1)) (upd ur t w) dl sl le) H := hP
      have hD : va_D A (MoW q k tr (ck + (((v / (nI 100)) + (sz t)).toInt64)) ((fi t) + (sz t)) (po + v.toInt64) th we bu (vp_updL tg o ((tg o) + (((27720) * ((sz t).toInt64)) / ((we o).toInt64)))) se (vp_updL gr o ((gr o) + (((27720) * ((sz t).toInt64)) / ((we o).toInt64)))) ba tn (sn + 1) u ow fi sz (upd so sn (nI t)) wr (upd dn t (nI 1)) (upd ur t w) dl sl le) := hD
      refine lv_aload_n hx hb dX3_serve_193 rfl (lv_at hl 1 rfl) ?_
      refine va_get (D := D) (ci := 3) (v := .ref (q 5)) (C := RX3) (T := TX3) (N := 24) hx hb hts iwX3_serve_X3 hown hK hP 0 rfl rfl 8 (by decide) (hts (Cond.fieldLink RX3 24 "ShareDiskModel" "sectors" "[J") mwX3_serve_14) (fun _ h9 => h9) rfl dX3_serve_194 ?_
      refine lv_iload_n hx hb dX3_serve_197 rfl (lv_at hl 4 rfl) ?_
      refine lv_dup2_11 hx hb dX3_serve_198 rfl rfl ?_
      refine aJ hx hb hK hP 5 2 rfl rfl (ix8 (by omega)) dX3_serve_199 ?_
      refine lv_aload_n hx hb dX3_serve_200 rfl (lv_at hl 1 rfl) ?_
      refine va_get (D := D) (ci := 3) (v := .ref (q 10)) (C := RX3) (T := TX3) (N := 24) hx hb hts iwX3_serve_X3 hown hK hP 0 rfl rfl 16 (by decide) (hts (Cond.fieldLink RX3 39 "ShareDiskModel" "counts" "[I") mwX3_serve_3) (fun _ h9 => h9) rfl dX3_serve_201 ?_
      refine lv_iload_n hx hb dX3_serve_204 rfl (lv_at hl 2 rfl) ?_
      refine aI hx hb hK hP 10 1 rfl rfl (ix5 (by omega)) dX3_serve_205 ?_
      refine lv_i2l (v := (sz t).toInt64) hx hb dX3_serve_206 rfl ?_
      refine lv_ladd hx hb dX3_serve_207 ?_
      refine sJ hx hb hK hP hD hS 5 2 rfl rfl (ix8 (by omega)) dX3_serve_208 (fun H locs hP hD hS => ?_)
      have hP : va_P D vwCl (MoW q k tr (ck + (((v / (nI 100)) + (sz t)).toInt64)) ((fi t) + (sz t)) (po + v.toInt64) th we bu (vp_updL tg o ((tg o) + (((27720) * ((sz t).toInt64)) / ((we o).toInt64)))) (vp_updL se o ((se o) + ((sz t).toInt64))) (vp_updL gr o ((gr o) + (((27720) * ((sz t).toInt64)) / ((we o).toInt64)))) ba tn (sn + 1) u ow fi sz (upd so sn (nI t)) wr (upd dn t (nI 1)) (upd ur t w) dl sl le) H := hP
      have hD : va_D A (MoW q k tr (ck + (((v / (nI 100)) + (sz t)).toInt64)) ((fi t) + (sz t)) (po + v.toInt64) th we bu (vp_updL tg o ((tg o) + (((27720) * ((sz t).toInt64)) / ((we o).toInt64)))) (vp_updL se o ((se o) + ((sz t).toInt64))) (vp_updL gr o ((gr o) + (((27720) * ((sz t).toInt64)) / ((we o).toInt64)))) ba tn (sn + 1) u ow fi sz (upd so sn (nI t)) wr (upd dn t (nI 1)) (upd ur t w) dl sl le) := hD
      have cut232 : ∀ (v1 : Int32) (H : Heap) (locs : List Loc) (ls : Array Slot), (v1 = (if sl = nI o then le - sz t else le)) → va_P D vwCl (MoW q k tr (ck + (((v / (nI 100)) + (sz t)).toInt64)) ((fi t) + (sz t)) (po + v.toInt64) th we bu (vp_updL tg o ((tg o) + (((27720) * ((sz t).toInt64)) / ((we o).toInt64)))) (vp_updL se o ((se o) + ((sz t).toInt64))) (vp_updL gr o ((gr o) + (((27720) * ((sz t).toInt64)) / ((we o).toInt64)))) ba tn (sn + 1) u ow fi sz (upd so sn (nI t)) wr (upd dn t (nI 1)) (upd ur t w) dl sl v1) H → va_D A (MoW q k tr (ck + (((v / (nI 100)) + (sz t)).toInt64)) ((fi t) + (sz t)) (po + v.toInt64) th we bu (vp_updL tg o ((tg o) + (((27720) * ((sz t).toInt64)) / ((we o).toInt64)))) (vp_updL se o ((se o) + ((sz t).toInt64))) (vp_updL gr o ((gr o) + (((27720) * ((sz t).toInt64)) / ((we o).toInt64)))) ba tn (sn + 1) u ow fi sz (upd so sn (nI t)) wr (upd dn t (nI 1)) (upd ur t w) dl sl v1) → va_S A s.heap H locs → lv_has ls 8 [(0, .ref (q 0)), (1, .int (nI t)), (2, .int w), (3, .int (nI o)), (4, .int v), (5, .long (((27720) * ((sz t).toInt64)) / ((we o).toInt64)))] → W p l e ({ frames := 1, cells := 0, slots := 0, locals := 23 } : Room) s m [.ref (q 0), .int (nI t), .int w].toArray below meth c H locs 0 0 (MQ below (QV D k (fun w9 => w9 = MoW q k tr (ck + (waF fi hd t / nI 100 + sz t).toInt64) (fi t + sz t) (po + (waF fi hd t).toInt64) th we bu (if sn + 1 = tn then smT th (vp_updL tg o (tg o + (27720) * (sz t).toInt64 / (we o).toInt64)) 8 else vp_updL tg o (tg o + (27720) * (sz t).toInt64 / (we o).toInt64)) (vp_updL se o (se o + (sz t).toInt64)) (vp_updL gr o (gr o + (27720) * (sz t).toInt64 / (we o).toInt64)) ba tn (sn + 1) (if w = 0 then un else un + 1) ow fi sz (upd so sn (nI t)) wr (upd dn t (nI 1)) (upd ur t w) dl (if sl = nI o ∧ ((if sl = nI o then le - sz t else le) ≤ 0 ∨ nI (wcN (upd dn t (nI 1)) ow (nI o) tn) = 0) then (-1) else sl) (if sl = nI o ∧ ((if sl = nI o then le - sz t else le) ≤ 0 ∨ nI (wcN (upd dn t (nI 1)) ow (nI o) tn) = 0) then nI 0 else (if sl = nI o then le - sz t else le))) A) [.ref (q 0), .int (nI t), .int w].toArray s 0 0 A) (F0 m 232 ls []) := by
        intro v1 H locs ls hv1 hP hD hS hl
        have cut259 : ∀ (s2 : Int32) (v2 : Int32) (H : Heap) (locs : List Loc) (ls : Array Slot), (s2 = if sl = nI o ∧ ((if sl = nI o then le - sz t else le) ≤ 0 ∨ nI (wcN (upd dn t (nI 1)) ow (nI o) tn) = 0) then (-1) else sl) → (v2 = if sl = nI o ∧ ((if sl = nI o then le - sz t else le) ≤ 0 ∨ nI (wcN (upd dn t (nI 1)) ow (nI o) tn) = 0) then nI 0 else (if sl = nI o then le - sz t else le)) → va_P D vwCl (MoW q k tr (ck + (((v / (nI 100)) + (sz t)).toInt64)) ((fi t) + (sz t)) (po + v.toInt64) th we bu (vp_updL tg o ((tg o) + (((27720) * ((sz t).toInt64)) / ((we o).toInt64)))) (vp_updL se o ((se o) + ((sz t).toInt64))) (vp_updL gr o ((gr o) + (((27720) * ((sz t).toInt64)) / ((we o).toInt64)))) ba tn (sn + 1) u ow fi sz (upd so sn (nI t)) wr (upd dn t (nI 1)) (upd ur t w) dl s2 v2) H → va_D A (MoW q k tr (ck + (((v / (nI 100)) + (sz t)).toInt64)) ((fi t) + (sz t)) (po + v.toInt64) th we bu (vp_updL tg o ((tg o) + (((27720) * ((sz t).toInt64)) / ((we o).toInt64)))) (vp_updL se o ((se o) + ((sz t).toInt64))) (vp_updL gr o ((gr o) + (((27720) * ((sz t).toInt64)) / ((we o).toInt64)))) ba tn (sn + 1) u ow fi sz (upd so sn (nI t)) wr (upd dn t (nI 1)) (upd ur t w) dl s2 v2) → va_S A s.heap H locs → lv_has ls 8 [(0, .ref (q 0)), (1, .int (nI t)), (2, .int w), (3, .int (nI o)), (4, .int v), (5, .long (((27720) * ((sz t).toInt64)) / ((we o).toInt64)))] → W p l e ({ frames := 1, cells := 0, slots := 0, locals := 23 } : Room) s m [.ref (q 0), .int (nI t), .int w].toArray below meth c H locs 0 0 (MQ below (QV D k (fun w9 => w9 = MoW q k tr (ck + (waF fi hd t / nI 100 + sz t).toInt64) (fi t + sz t) (po + (waF fi hd t).toInt64) th we bu (if sn + 1 = tn then smT th (vp_updL tg o (tg o + (27720) * (sz t).toInt64 / (we o).toInt64)) 8 else vp_updL tg o (tg o + (27720) * (sz t).toInt64 / (we o).toInt64)) (vp_updL se o (se o + (sz t).toInt64)) (vp_updL gr o (gr o + (27720) * (sz t).toInt64 / (we o).toInt64)) ba tn (sn + 1) (if w = 0 then un else un + 1) ow fi sz (upd so sn (nI t)) wr (upd dn t (nI 1)) (upd ur t w) dl (if sl = nI o ∧ ((if sl = nI o then le - sz t else le) ≤ 0 ∨ nI (wcN (upd dn t (nI 1)) ow (nI o) tn) = 0) then (-1) else sl) (if sl = nI o ∧ ((if sl = nI o then le - sz t else le) ≤ 0 ∨ nI (wcN (upd dn t (nI 1)) ow (nI o) tn) = 0) then nI 0 else (if sl = nI o then le - sz t else le))) A) [.ref (q 0), .int (nI t), .int w].toArray s 0 0 A) (F0 m 259 ls []) := by
          intro s2 v2 H locs ls hs2 hv2 hP hD hS hl
          refine lv_iconst (v := nI 0) hx hb dX3_serve_259 (by decide) ?_
          refine lv_istore (lv' := [(7, .int (nI 0)), (0, .ref (q 0)), (1, .int (nI t)), (2, .int w), (3, .int (nI o)), (4, .int v), (5, .long (((27720) * ((sz t).toInt64)) / ((we o).toInt64)))]) hx hb dX3_serve_260 hl (by decide) rfl (fun ls hl => ?_)
          have loop262 : ∀ (n : Nat) (i : Nat) (T : Nat → Int64), (i ≤ 8) → (T = if sn + 1 = tn then smT th (vp_updL tg o (tg o + (27720) * (sz t).toInt64 / (we o).toInt64)) i else vp_updL tg o (tg o + (27720) * (sz t).toInt64 / (we o).toInt64)) → 8 - i < n → ∀ (H : Heap) (locs : List Loc) (ls : Array Slot), va_P D vwCl (MoW q k tr (ck + (((v / (nI 100)) + (sz t)).toInt64)) ((fi t) + (sz t)) (po + v.toInt64) th we bu T (vp_updL se o ((se o) + ((sz t).toInt64))) (vp_updL gr o ((gr o) + (((27720) * ((sz t).toInt64)) / ((we o).toInt64)))) ba tn (sn + 1) u ow fi sz (upd so sn (nI t)) wr (upd dn t (nI 1)) (upd ur t w) dl s2 v2) H → va_D A (MoW q k tr (ck + (((v / (nI 100)) + (sz t)).toInt64)) ((fi t) + (sz t)) (po + v.toInt64) th we bu T (vp_updL se o ((se o) + ((sz t).toInt64))) (vp_updL gr o ((gr o) + (((27720) * ((sz t).toInt64)) / ((we o).toInt64)))) ba tn (sn + 1) u ow fi sz (upd so sn (nI t)) wr (upd dn t (nI 1)) (upd ur t w) dl s2 v2) → va_S A s.heap H locs → lv_has ls 8 [(0, .ref (q 0)), (1, .int (nI t)), (2, .int w), (3, .int (nI o)), (4, .int v), (5, .long (((27720) * ((sz t).toInt64)) / ((we o).toInt64))), (7, .int (nI i))] → W p l e ({ frames := 1, cells := 0, slots := 0, locals := 23 } : Room) s m [.ref (q 0), .int (nI t), .int w].toArray below meth c H locs 0 0 (MQ below (QV D k (fun w9 => w9 = MoW q k tr (ck + (waF fi hd t / nI 100 + sz t).toInt64) (fi t + sz t) (po + (waF fi hd t).toInt64) th we bu (if sn + 1 = tn then smT th (vp_updL tg o (tg o + (27720) * (sz t).toInt64 / (we o).toInt64)) 8 else vp_updL tg o (tg o + (27720) * (sz t).toInt64 / (we o).toInt64)) (vp_updL se o (se o + (sz t).toInt64)) (vp_updL gr o (gr o + (27720) * (sz t).toInt64 / (we o).toInt64)) ba tn (sn + 1) (if w = 0 then un else un + 1) ow fi sz (upd so sn (nI t)) wr (upd dn t (nI 1)) (upd ur t w) dl (if sl = nI o ∧ ((if sl = nI o then le - sz t else le) ≤ 0 ∨ nI (wcN (upd dn t (nI 1)) ow (nI o) tn) = 0) then (-1) else sl) (if sl = nI o ∧ ((if sl = nI o then le - sz t else le) ≤ 0 ∨ nI (wcN (upd dn t (nI 1)) ow (nI o) tn) = 0) then nI 0 else (if sl = nI o then le - sz t else le))) A) [.ref (q 0), .int (nI t), .int w].toArray s 0 0 A) (F0 m 262 ls []) := by
            intro n
            induction n with
            | zero => intro i T hi hT hn9; exact absurd hn9 (Nat.not_lt_zero _)
            | succ n ih =>
              intro i T hi hT hn9 H locs ls hP hD hS hl
              refine lv_iload hx hb dX3_serve_262 (lv_at hl 6 rfl) ?_
              refine lv_bipush (v := nI 8) hx hb dX3_serve_264 (by decide) ?_
              refine lv_icmp_ge (tgt := 338) hx hb dX3_serve_266 (by decide) (fun c1 => ?_) (fun c1 => ?_)
              · have hi8 : i = 8 := lp_ge (by decide) hi c1
                exact retV hc dX3_serve_338 hK hP hD hS (by rw [hT, hi8, hs2, hv2, hu, hv]) (Nat.le_of_ble_eq_true rfl) (Nat.le_of_ble_eq_true rfl)
              · have hi8 : i < 8 := lp_lt (by decide) hi c1
                refine lv_aload_n hx hb dX3_serve_269 rfl (lv_at hl 0 rfl) ?_
                refine va_get (D := D) (ci := 3) (v := .int (nI (sn + 1))) (C := RX3) (T := TX3) (N := 24) hx hb hts iwX3_serve_X3 hown hK hP 0 rfl rfl 12 (by decide) (hts (Cond.fieldLink RX3 124 "ShareDiskModel" "served" "I") mwX3_serve_9) (fun _ h9 => h9) rfl dX3_serve_270 ?_
                refine lv_aload_n hx hb dX3_serve_273 rfl (lv_at hl 0 rfl) ?_
                refine va_get (D := D) (ci := 3) (v := .int (nI tn)) (C := RX3) (T := TX3) (N := 24) hx hb hts iwX3_serve_X3 hown hK hP 0 rfl rfl 11 (by decide) (hts (Cond.fieldLink RX3 70 "ShareDiskModel" "tickets" "I") mwX3_serve_15) (fun _ h9 => h9) rfl dX3_serve_274 ?_
                refine lv_icmp_ne (tgt := 338) hx hb dX3_serve_277 (by decide) (fun c2 => ?_) (fun c2 => ?_)
                · have hne9 : ¬ sn + 1 = tn := fun h => c2 (by rw [h])
                  exact retV hc dX3_serve_338 hK hP hD hS (by rw [hT, if_neg hne9, if_neg hne9, hs2, hv2, hu, hv]) (Nat.le_of_ble_eq_true rfl) (Nat.le_of_ble_eq_true rfl)
                · have hst9 : sn + 1 = tn := (nI_eq (by omega) (by omega)).mp c2
                  have hT1 : T = smT th (vp_updL tg o (tg o + (27720) * (sz t).toInt64 / (we o).toInt64)) i := by rw [hT, if_pos hst9]
                  refine lv_aload_n hx hb dX3_serve_280 rfl (lv_at hl 0 rfl) ?_
                  refine va_get (D := D) (ci := 3) (v := .ref (q 4)) (C := RX3) (T := TX3) (N := 24) hx hb hts iwX3_serve_X3 hown hK hP 0 rfl rfl 7 (by decide) (hts (Cond.fieldLink RX3 20 "ShareDiskModel" "tags" "[J") mwX3_serve_12) (fun _ h9 => h9) rfl dX3_serve_281 ?_
                  refine lv_bipush (v := nI 8) hx hb dX3_serve_284 (by decide) ?_
                  refine lv_aload_n hx hb dX3_serve_286 rfl (lv_at hl 0 rfl) ?_
                  refine va_get (D := D) (ci := 3) (v := .ref (q 1)) (C := RX3) (T := TX3) (N := 24) hx hb hts iwX3_serve_X3 hown hK hP 0 rfl rfl 4 (by decide) (hts (Cond.fieldLink RX3 7 "ShareDiskModel" "there" "[Z") mwX3_serve_16) (fun _ h9 => h9) rfl dX3_serve_287 ?_
                  refine lv_iload hx hb dX3_serve_290 (lv_at hl 6 rfl) ?_
                  refine aZ hx hb hK hP 1 0 rfl rfl (ix8 (by omega)) dX3_serve_292 ?_
                  refine lv_if_eq (tgt := 324) hx hb dX3_serve_293 (by decide) (fun c3 => ?_) (fun c3 => ?_)
                  · refine lv_aload_n hx hb dX3_serve_324 rfl (lv_at hl 0 rfl) ?_
                    refine va_get (D := D) (ci := 3) (v := .ref (q 4)) (C := RX3) (T := TX3) (N := 24) hx hb hts iwX3_serve_X3 hown hK hP 0 rfl rfl 7 (by decide) (hts (Cond.fieldLink RX3 20 "ShareDiskModel" "tags" "[J") mwX3_serve_12) (fun _ h9 => h9) rfl dX3_serve_325 ?_
                    refine lv_bipush (v := nI 8) hx hb dX3_serve_328 (by decide) ?_
                    refine aJ hx hb hK hP 4 2 rfl rfl (ix9 (by decide)) dX3_serve_330 ?_
                    refine sJ hx hb hK hP hD hS 4 2 rfl rfl (ix9 (by decide)) dX3_serve_331 (fun H locs hP hD hS => ?_)
                    have hP : va_P D vwCl (MoW q k tr (ck + (((v / (nI 100)) + (sz t)).toInt64)) ((fi t) + (sz t)) (po + v.toInt64) th we bu (vp_updL T 8 (T 8)) (vp_updL se o ((se o) + ((sz t).toInt64))) (vp_updL gr o ((gr o) + (((27720) * ((sz t).toInt64)) / ((we o).toInt64)))) ba tn (sn + 1) u ow fi sz (upd so sn (nI t)) wr (upd dn t (nI 1)) (upd ur t w) dl s2 v2) H := hP
                    have hD : va_D A (MoW q k tr (ck + (((v / (nI 100)) + (sz t)).toInt64)) ((fi t) + (sz t)) (po + v.toInt64) th we bu (vp_updL T 8 (T 8)) (vp_updL se o ((se o) + ((sz t).toInt64))) (vp_updL gr o ((gr o) + (((27720) * ((sz t).toInt64)) / ((we o).toInt64)))) ba tn (sn + 1) u ow fi sz (upd so sn (nI t)) wr (upd dn t (nI 1)) (upd ur t w) dl s2 v2) := hD
                    refine lv_iinc (v := nI (i + 1)) (lv' := [(7, .int (nI (i + 1))), (0, .ref (q 0)), (1, .int (nI t)), (2, .int w), (3, .int (nI o)), (4, .int v), (5, .long (((27720) * ((sz t).toInt64)) / ((we o).toInt64)))]) hx hb dX3_serve_332 hl (k := 6) rfl (by rw [show Int32.ofInt 1 = nI 1 by decide, nI_add]) (by decide) rfl (fun ls hl => ?_)
                    refine lv_goto (tgt := 262) hx hb dX3_serve_335 (by decide) ?_
                    exact ih (i + 1) _ (by omega) (by rw [if_pos hst9, smT, ← hT1, if_pos c3]) (by omega) _ _ _ hP hD hS (lv_sub hl [1, 2, 3, 4, 5, 6, 0] rfl)
                  · refine lv_aload_n hx hb dX3_serve_296 rfl (lv_at hl 0 rfl) ?_
                    refine va_get (D := D) (ci := 3) (v := .ref (q 4)) (C := RX3) (T := TX3) (N := 24) hx hb hts iwX3_serve_X3 hown hK hP 0 rfl rfl 7 (by decide) (hts (Cond.fieldLink RX3 20 "ShareDiskModel" "tags" "[J") mwX3_serve_12) (fun _ h9 => h9) rfl dX3_serve_297 ?_
                    refine lv_iload hx hb dX3_serve_300 (lv_at hl 6 rfl) ?_
                    refine aJ hx hb hK hP 4 2 rfl rfl (ix9 (by omega)) dX3_serve_302 ?_
                    refine lv_aload_n hx hb dX3_serve_303 rfl (lv_at hl 0 rfl) ?_
                    refine va_get (D := D) (ci := 3) (v := .ref (q 4)) (C := RX3) (T := TX3) (N := 24) hx hb hts iwX3_serve_X3 hown hK hP 0 rfl rfl 7 (by decide) (hts (Cond.fieldLink RX3 20 "ShareDiskModel" "tags" "[J") mwX3_serve_12) (fun _ h9 => h9) rfl dX3_serve_304 ?_
                    refine lv_bipush (v := nI 8) hx hb dX3_serve_307 (by decide) ?_
                    refine aJ hx hb hK hP 4 2 rfl rfl (ix9 (by decide)) dX3_serve_309 ?_
                    refine W.lcmp hx hb dX3_serve_310 ?_
                    refine lv_if_le (tgt := 324) hx hb dX3_serve_311 (by decide) (fun c4 => ?_) (fun c4 => ?_)
                    · rw [lg_cmp_le] at c4
                      refine lv_aload_n hx hb dX3_serve_324 rfl (lv_at hl 0 rfl) ?_
                      refine va_get (D := D) (ci := 3) (v := .ref (q 4)) (C := RX3) (T := TX3) (N := 24) hx hb hts iwX3_serve_X3 hown hK hP 0 rfl rfl 7 (by decide) (hts (Cond.fieldLink RX3 20 "ShareDiskModel" "tags" "[J") mwX3_serve_12) (fun _ h9 => h9) rfl dX3_serve_325 ?_
                      refine lv_bipush (v := nI 8) hx hb dX3_serve_328 (by decide) ?_
                      refine aJ hx hb hK hP 4 2 rfl rfl (ix9 (by decide)) dX3_serve_330 ?_
                      refine sJ hx hb hK hP hD hS 4 2 rfl rfl (ix9 (by decide)) dX3_serve_331 (fun H locs hP hD hS => ?_)
                      have hP : va_P D vwCl (MoW q k tr (ck + (((v / (nI 100)) + (sz t)).toInt64)) ((fi t) + (sz t)) (po + v.toInt64) th we bu (vp_updL T 8 (T 8)) (vp_updL se o ((se o) + ((sz t).toInt64))) (vp_updL gr o ((gr o) + (((27720) * ((sz t).toInt64)) / ((we o).toInt64)))) ba tn (sn + 1) u ow fi sz (upd so sn (nI t)) wr (upd dn t (nI 1)) (upd ur t w) dl s2 v2) H := hP
                      have hD : va_D A (MoW q k tr (ck + (((v / (nI 100)) + (sz t)).toInt64)) ((fi t) + (sz t)) (po + v.toInt64) th we bu (vp_updL T 8 (T 8)) (vp_updL se o ((se o) + ((sz t).toInt64))) (vp_updL gr o ((gr o) + (((27720) * ((sz t).toInt64)) / ((we o).toInt64)))) ba tn (sn + 1) u ow fi sz (upd so sn (nI t)) wr (upd dn t (nI 1)) (upd ur t w) dl s2 v2) := hD
                      refine lv_iinc (v := nI (i + 1)) (lv' := [(7, .int (nI (i + 1))), (0, .ref (q 0)), (1, .int (nI t)), (2, .int w), (3, .int (nI o)), (4, .int v), (5, .long (((27720) * ((sz t).toInt64)) / ((we o).toInt64)))]) hx hb dX3_serve_332 hl (k := 6) rfl (by rw [show Int32.ofInt 1 = nI 1 by decide, nI_add]) (by decide) rfl (fun ls hl => ?_)
                      refine lv_goto (tgt := 262) hx hb dX3_serve_335 (by decide) ?_
                      exact ih (i + 1) _ (by omega) (by rw [if_pos hst9, smT, ← hT1, if_neg c3, if_pos c4]) (by omega) _ _ _ hP hD hS (lv_sub hl [1, 2, 3, 4, 5, 6, 0] rfl)
                    · rw [lg_cmp_le] at c4
                      refine lv_aload_n hx hb dX3_serve_314 rfl (lv_at hl 0 rfl) ?_
                      refine va_get (D := D) (ci := 3) (v := .ref (q 4)) (C := RX3) (T := TX3) (N := 24) hx hb hts iwX3_serve_X3 hown hK hP 0 rfl rfl 7 (by decide) (hts (Cond.fieldLink RX3 20 "ShareDiskModel" "tags" "[J") mwX3_serve_12) (fun _ h9 => h9) rfl dX3_serve_315 ?_
                      refine lv_iload hx hb dX3_serve_318 (lv_at hl 6 rfl) ?_
                      refine aJ hx hb hK hP 4 2 rfl rfl (ix9 (by omega)) dX3_serve_320 ?_
                      refine lv_goto (tgt := 331) hx hb dX3_serve_321 (by decide) ?_
                      refine sJ hx hb hK hP hD hS 4 2 rfl rfl (ix9 (by decide)) dX3_serve_331 (fun H locs hP hD hS => ?_)
                      have hP : va_P D vwCl (MoW q k tr (ck + (((v / (nI 100)) + (sz t)).toInt64)) ((fi t) + (sz t)) (po + v.toInt64) th we bu (vp_updL T 8 (T i)) (vp_updL se o ((se o) + ((sz t).toInt64))) (vp_updL gr o ((gr o) + (((27720) * ((sz t).toInt64)) / ((we o).toInt64)))) ba tn (sn + 1) u ow fi sz (upd so sn (nI t)) wr (upd dn t (nI 1)) (upd ur t w) dl s2 v2) H := hP
                      have hD : va_D A (MoW q k tr (ck + (((v / (nI 100)) + (sz t)).toInt64)) ((fi t) + (sz t)) (po + v.toInt64) th we bu (vp_updL T 8 (T i)) (vp_updL se o ((se o) + ((sz t).toInt64))) (vp_updL gr o ((gr o) + (((27720) * ((sz t).toInt64)) / ((we o).toInt64)))) ba tn (sn + 1) u ow fi sz (upd so sn (nI t)) wr (upd dn t (nI 1)) (upd ur t w) dl s2 v2) := hD
                      refine lv_iinc (v := nI (i + 1)) (lv' := [(7, .int (nI (i + 1))), (0, .ref (q 0)), (1, .int (nI t)), (2, .int w), (3, .int (nI o)), (4, .int v), (5, .long (((27720) * ((sz t).toInt64)) / ((we o).toInt64)))]) hx hb dX3_serve_332 hl (k := 6) rfl (by rw [show Int32.ofInt 1 = nI 1 by decide, nI_add]) (by decide) rfl (fun ls hl => ?_)
                      refine lv_goto (tgt := 262) hx hb dX3_serve_335 (by decide) ?_
                      exact ih (i + 1) _ (by omega) (by rw [if_pos hst9, smT, ← hT1, if_neg c3, if_neg c4]) (by omega) _ _ _ hP hD hS (lv_sub hl [1, 2, 3, 4, 5, 6, 0] rfl)
          exact loop262 _ 0 _ (by omega) (by split <;> rfl) (Nat.lt_succ_self _) _ _ _ hP hD hS (lv_sub hl [1, 2, 3, 4, 5, 6, 0] rfl)
        refine lv_aload_n hx hb dX3_serve_232 rfl (lv_at hl 0 rfl) ?_
        refine va_get (D := D) (ci := 3) (v := .int sl) (C := RX3) (T := TX3) (N := 24) hx hb hts iwX3_serve_X3 hown hK hP 0 rfl rfl 22 (by decide) (hts (Cond.fieldLink RX3 57 "ShareDiskModel" "slice" "I") mwX3_serve_17) (fun _ h9 => h9) rfl dX3_serve_233 ?_
        refine lv_iload_n hx hb dX3_serve_236 rfl (lv_at hl 3 rfl) ?_
        refine lv_icmp_ne (tgt := 259) hx hb dX3_serve_237 (by decide) (fun c5 => ?_) (fun c5 => ?_)
        · exact cut259 _ _ _ _ _ (if_neg (fun h => c5 h.1)).symm (hv1.trans (if_neg (fun h => c5 h.1)).symm) hP hD hS (lv_sub hl [0, 1, 2, 3, 4, 5] rfl)
        · refine lv_aload_n hx hb dX3_serve_240 rfl (lv_at hl 0 rfl) ?_
          refine va_get (D := D) (ci := 3) (v := .int v1) (C := RX3) (T := TX3) (N := 24) hx hb hts iwX3_serve_X3 hown hK hP 0 rfl rfl 23 (by decide) (hts (Cond.fieldLink RX3 92 "ShareDiskModel" "left" "I") mwX3_serve_18) (fun _ h9 => h9) rfl dX3_serve_241 ?_
          refine lv_if_le (tgt := 255) hx hb dX3_serve_244 (by decide) (fun c6 => ?_) (fun c6 => ?_)
          · refine lv_aload_n hx hb dX3_serve_255 rfl (lv_at hl 0 rfl) ?_
            refine goVV0 hc (kX3_end l D k q H.size tr (ck + (((v / (nI 100)) + (sz t)).toInt64)) ((fi t) + (sz t)) (po + v.toInt64) th we bu (vp_updL tg o ((tg o) + (((27720) * ((sz t).toInt64)) / ((we o).toInt64)))) (vp_updL se o ((se o) + ((sz t).toInt64))) (vp_updL gr o ((gr o) + (((27720) * ((sz t).toInt64)) / ((we o).toInt64)))) ba tn (sn + 1) u ow fi sz (upd so sn (nI t)) wr (upd dn t (nI 1)) (upd ur t w) dl sl v1) (cwV 0 hts gX3_serve_X3_end rfl rfl rfl (by decide +kernel) ⟨(Nat.le_of_ble_eq_true rfl), (Nat.le_of_ble_eq_true rfl)⟩) hP hD hK hS hA (ci := 3) (q0 := 0) rfl rfl rfl hl.1 rfl (Nat.le_of_ble_eq_true rfl) dX3_serve_256 (Nat.le_of_ble_eq_true rfl) (Nat.le_of_ble_eq_true rfl) (fun B9 H locs hq hP hD hS => ?_)
            subst hq
            have hP : va_P D vwCl (MoW q k tr (ck + (((v / (nI 100)) + (sz t)).toInt64)) ((fi t) + (sz t)) (po + v.toInt64) th we bu (vp_updL tg o ((tg o) + (((27720) * ((sz t).toInt64)) / ((we o).toInt64)))) (vp_updL se o ((se o) + ((sz t).toInt64))) (vp_updL gr o ((gr o) + (((27720) * ((sz t).toInt64)) / ((we o).toInt64)))) ba tn (sn + 1) u ow fi sz (upd so sn (nI t)) wr (upd dn t (nI 1)) (upd ur t w) dl (-1) (nI 0)) H := hP
            have hD : va_D A (MoW q k tr (ck + (((v / (nI 100)) + (sz t)).toInt64)) ((fi t) + (sz t)) (po + v.toInt64) th we bu (vp_updL tg o ((tg o) + (((27720) * ((sz t).toInt64)) / ((we o).toInt64)))) (vp_updL se o ((se o) + ((sz t).toInt64))) (vp_updL gr o ((gr o) + (((27720) * ((sz t).toInt64)) / ((we o).toInt64)))) ba tn (sn + 1) u ow fi sz (upd so sn (nI t)) wr (upd dn t (nI 1)) (upd ur t w) dl (-1) (nI 0)) := hD
            exact cut259 _ _ _ _ _ (if_pos ⟨c5, Or.inl (by rw [← hv1]; exact c6)⟩).symm (if_pos ⟨c5, Or.inl (by rw [← hv1]; exact c6)⟩).symm hP hD hS (lv_sub hl [0, 1, 2, 3, 4, 5] rfl)
          · refine lv_aload_n hx hb dX3_serve_247 rfl (lv_at hl 0 rfl) ?_
            refine lv_iload_n hx hb dX3_serve_248 rfl (lv_at hl 3 rfl) ?_
            refine goVI0 hc (kX3_waiting l D k q H.size tr (ck + (((v / (nI 100)) + (sz t)).toInt64)) ((fi t) + (sz t)) (po + v.toInt64) th we bu (vp_updL tg o ((tg o) + (((27720) * ((sz t).toInt64)) / ((we o).toInt64)))) (vp_updL se o ((se o) + ((sz t).toInt64))) (vp_updL gr o ((gr o) + (((27720) * ((sz t).toInt64)) / ((we o).toInt64)))) ba tn (sn + 1) u ow fi sz (upd so sn (nI t)) wr (upd dn t (nI 1)) (upd ur t w) dl sl v1 (nI o) (htn)) (cwV 1 hts gX3_serve_X3_waiting rfl rfl rfl (by decide +kernel) ⟨(Nat.le_of_ble_eq_true rfl), (Nat.le_of_ble_eq_true rfl)⟩) hP hD hK hS hA (ci := 3) (q0 := 0) rfl rfl rfl hl.1 rfl (Nat.le_of_ble_eq_true rfl) dX3_serve_249 (Nat.le_of_ble_eq_true rfl) (Nat.le_of_ble_eq_true rfl) (fun r9 B9 H locs hq hP hD hS => ?_)
            obtain ⟨hr9, rfl⟩ := hq
            subst hr9
            have hP : va_P D vwCl (MoW q k tr (ck + (((v / (nI 100)) + (sz t)).toInt64)) ((fi t) + (sz t)) (po + v.toInt64) th we bu (vp_updL tg o ((tg o) + (((27720) * ((sz t).toInt64)) / ((we o).toInt64)))) (vp_updL se o ((se o) + ((sz t).toInt64))) (vp_updL gr o ((gr o) + (((27720) * ((sz t).toInt64)) / ((we o).toInt64)))) ba tn (sn + 1) u ow fi sz (upd so sn (nI t)) wr (upd dn t (nI 1)) (upd ur t w) dl sl v1) H := hP
            have hD : va_D A (MoW q k tr (ck + (((v / (nI 100)) + (sz t)).toInt64)) ((fi t) + (sz t)) (po + v.toInt64) th we bu (vp_updL tg o ((tg o) + (((27720) * ((sz t).toInt64)) / ((we o).toInt64)))) (vp_updL se o ((se o) + ((sz t).toInt64))) (vp_updL gr o ((gr o) + (((27720) * ((sz t).toInt64)) / ((we o).toInt64)))) ba tn (sn + 1) u ow fi sz (upd so sn (nI t)) wr (upd dn t (nI 1)) (upd ur t w) dl sl v1) := hD
            refine lv_if_ne (tgt := 259) hx hb dX3_serve_252 (by decide) (fun c7 => ?_) (fun c7 => ?_)
            · exact cut259 _ _ _ _ _ (if_neg (fun h => h.2.elim (fun a => c6 (by rw [hv1]; exact a)) c7)).symm (hv1.trans (if_neg (fun h => h.2.elim (fun a => c6 (by rw [hv1]; exact a)) c7)).symm) hP hD hS (lv_sub hl [0, 1, 2, 3, 4, 5] rfl)
            · refine lv_aload_n hx hb dX3_serve_255 rfl (lv_at hl 0 rfl) ?_
              refine goVV0 hc (kX3_end l D k q H.size tr (ck + (((v / (nI 100)) + (sz t)).toInt64)) ((fi t) + (sz t)) (po + v.toInt64) th we bu (vp_updL tg o ((tg o) + (((27720) * ((sz t).toInt64)) / ((we o).toInt64)))) (vp_updL se o ((se o) + ((sz t).toInt64))) (vp_updL gr o ((gr o) + (((27720) * ((sz t).toInt64)) / ((we o).toInt64)))) ba tn (sn + 1) u ow fi sz (upd so sn (nI t)) wr (upd dn t (nI 1)) (upd ur t w) dl sl v1) (cwV 0 hts gX3_serve_X3_end rfl rfl rfl (by decide +kernel) ⟨(Nat.le_of_ble_eq_true rfl), (Nat.le_of_ble_eq_true rfl)⟩) hP hD hK hS hA (ci := 3) (q0 := 0) rfl rfl rfl hl.1 rfl (Nat.le_of_ble_eq_true rfl) dX3_serve_256 (Nat.le_of_ble_eq_true rfl) (Nat.le_of_ble_eq_true rfl) (fun B9 H locs hq hP hD hS => ?_)
              subst hq
              have hP : va_P D vwCl (MoW q k tr (ck + (((v / (nI 100)) + (sz t)).toInt64)) ((fi t) + (sz t)) (po + v.toInt64) th we bu (vp_updL tg o ((tg o) + (((27720) * ((sz t).toInt64)) / ((we o).toInt64)))) (vp_updL se o ((se o) + ((sz t).toInt64))) (vp_updL gr o ((gr o) + (((27720) * ((sz t).toInt64)) / ((we o).toInt64)))) ba tn (sn + 1) u ow fi sz (upd so sn (nI t)) wr (upd dn t (nI 1)) (upd ur t w) dl (-1) (nI 0)) H := hP
              have hD : va_D A (MoW q k tr (ck + (((v / (nI 100)) + (sz t)).toInt64)) ((fi t) + (sz t)) (po + v.toInt64) th we bu (vp_updL tg o ((tg o) + (((27720) * ((sz t).toInt64)) / ((we o).toInt64)))) (vp_updL se o ((se o) + ((sz t).toInt64))) (vp_updL gr o ((gr o) + (((27720) * ((sz t).toInt64)) / ((we o).toInt64)))) ba tn (sn + 1) u ow fi sz (upd so sn (nI t)) wr (upd dn t (nI 1)) (upd ur t w) dl (-1) (nI 0)) := hD
              exact cut259 _ _ _ _ _ (if_pos ⟨c5, Or.inr c7⟩).symm (if_pos ⟨c5, Or.inr c7⟩).symm hP hD hS (lv_sub hl [0, 1, 2, 3, 4, 5] rfl)
      refine lv_aload_n hx hb dX3_serve_209 rfl (lv_at hl 1 rfl) ?_
      refine va_get (D := D) (ci := 3) (v := .int sl) (C := RX3) (T := TX3) (N := 24) hx hb hts iwX3_serve_X3 hown hK hP 0 rfl rfl 22 (by decide) (hts (Cond.fieldLink RX3 57 "ShareDiskModel" "slice" "I") mwX3_serve_17) (fun _ h9 => h9) rfl dX3_serve_210 ?_
      refine lv_iload_n hx hb dX3_serve_213 rfl (lv_at hl 4 rfl) ?_
      refine lv_icmp_ne (tgt := 232) hx hb dX3_serve_214 (by decide) (fun c8 => ?_) (fun c8 => ?_)
      · exact cut232 _ _ _ _ (by simp [c8]) hP hD hS (lv_sub hl [1, 2, 3, 4, 5, 0] rfl)
      · refine lv_aload_n hx hb dX3_serve_217 rfl (lv_at hl 1 rfl) ?_
        refine lv_dup hx hb dX3_serve_218 rfl ?_
        refine va_get (D := D) (ci := 3) (v := .int le) (C := RX3) (T := TX3) (N := 24) hx hb hts iwX3_serve_X3 hown hK hP 0 rfl rfl 23 (by decide) (hts (Cond.fieldLink RX3 92 "ShareDiskModel" "left" "I") mwX3_serve_18) (fun _ h9 => h9) rfl dX3_serve_219 ?_
        refine lv_aload_n hx hb dX3_serve_222 rfl (lv_at hl 1 rfl) ?_
        refine va_get (D := D) (ci := 3) (v := .ref (q 10)) (C := RX3) (T := TX3) (N := 24) hx hb hts iwX3_serve_X3 hown hK hP 0 rfl rfl 16 (by decide) (hts (Cond.fieldLink RX3 39 "ShareDiskModel" "counts" "[I") mwX3_serve_3) (fun _ h9 => h9) rfl dX3_serve_223 ?_
        refine lv_iload_n hx hb dX3_serve_226 rfl (lv_at hl 2 rfl) ?_
        refine aI hx hb hK hP 10 1 rfl rfl (ix5 (by omega)) dX3_serve_227 ?_
        refine lv_isub hx hb dX3_serve_228 ?_
        refine va_put (D := D) (ci := 3) (v := .int (le - (sz t))) (ty := .int) (C := RX3) (T := TX3) (N := 24) hx hb hts iwX3_serve_X3 tyX3 tyX3_ok nmX3 hown hK hP hD hS 0 rfl rfl 23 (by decide) (hts (Cond.fieldLink RX3 92 "ShareDiskModel" "left" "I") mwX3_serve_18) (fun _ h9 => h9) rfl (by decide +kernel) rfl rfl (Nat.le_of_ble_eq_true rfl) dX3_serve_229 (fun H locs hP hD hS => ?_)
        have hP : va_P D vwCl (MoW q k tr (ck + (((v / (nI 100)) + (sz t)).toInt64)) ((fi t) + (sz t)) (po + v.toInt64) th we bu (vp_updL tg o ((tg o) + (((27720) * ((sz t).toInt64)) / ((we o).toInt64)))) (vp_updL se o ((se o) + ((sz t).toInt64))) (vp_updL gr o ((gr o) + (((27720) * ((sz t).toInt64)) / ((we o).toInt64)))) ba tn (sn + 1) u ow fi sz (upd so sn (nI t)) wr (upd dn t (nI 1)) (upd ur t w) dl sl (le - (sz t))) H := hP
        have hD : va_D A (MoW q k tr (ck + (((v / (nI 100)) + (sz t)).toInt64)) ((fi t) + (sz t)) (po + v.toInt64) th we bu (vp_updL tg o ((tg o) + (((27720) * ((sz t).toInt64)) / ((we o).toInt64)))) (vp_updL se o ((se o) + ((sz t).toInt64))) (vp_updL gr o ((gr o) + (((27720) * ((sz t).toInt64)) / ((we o).toInt64)))) ba tn (sn + 1) u ow fi sz (upd so sn (nI t)) wr (upd dn t (nI 1)) (upd ur t w) dl sl (le - (sz t))) := hD
        exact cut232 _ _ _ _ (by simp [c8]) hP hD hS (lv_sub hl [1, 2, 3, 4, 5, 0] rfl)
    refine lv_aload_n hx hb dX3_serve_112 rfl (lv_at hl 0 rfl) ?_
    refine lv_dup hx hb dX3_serve_113 rfl ?_
    refine va_get (D := D) (ci := 3) (v := .int (nI un)) (C := RX3) (T := TX3) (N := 24) hx hb hts iwX3_serve_X3 hown hK hP 0 rfl rfl 13 (by decide) (hts (Cond.fieldLink RX3 144 "ShareDiskModel" "urgents" "I") mwX3_serve_19) (fun _ h9 => h9) rfl dX3_serve_114 ?_
    refine lv_iload_n hx hb dX3_serve_117 rfl (lv_at hl 2 rfl) ?_
    refine lv_if_eq (tgt := 125) hx hb dX3_serve_118 (by decide) (fun c9 => ?_) (fun c9 => ?_)
    · refine lv_iconst (v := nI 0) hx hb dX3_serve_125 (by decide) ?_
      refine nadd hx hb dX3_serve_126 ?_
      refine va_put (D := D) (ci := 3) (v := .int (nI (un + 0))) (ty := .int) (C := RX3) (T := TX3) (N := 24) hx hb hts iwX3_serve_X3 tyX3 tyX3_ok nmX3 hown hK hP hD hS 0 rfl rfl 13 (by decide) (hts (Cond.fieldLink RX3 144 "ShareDiskModel" "urgents" "I") mwX3_serve_19) (fun _ h9 => h9) rfl (by decide +kernel) rfl rfl (Nat.le_of_ble_eq_true rfl) dX3_serve_127 (fun H locs hP hD hS => ?_)
      have hP : va_P D vwCl (MoW q k tr (ck + (((v / (nI 100)) + (sz t)).toInt64)) ((fi t) + (sz t)) (po + v.toInt64) th we bu tg se gr ba tn sn (un + 0) ow fi sz so wr (upd dn t (nI 1)) (upd ur t w) dl sl le) H := hP
      have hD : va_D A (MoW q k tr (ck + (((v / (nI 100)) + (sz t)).toInt64)) ((fi t) + (sz t)) (po + v.toInt64) th we bu tg se gr ba tn sn (un + 0) ow fi sz so wr (upd dn t (nI 1)) (upd ur t w) dl sl le) := hD
      exact cut130 (un + 0) _ _ _ (by simp [c9]) hP hD hS (lv_sub hl [0, 1, 2, 3, 4] rfl)
    · refine lv_iconst (v := nI 1) hx hb dX3_serve_121 (by decide) ?_
      refine lv_goto (tgt := 126) hx hb dX3_serve_122 (by decide) ?_
      refine nadd hx hb dX3_serve_126 ?_
      refine va_put (D := D) (ci := 3) (v := .int (nI (un + 1))) (ty := .int) (C := RX3) (T := TX3) (N := 24) hx hb hts iwX3_serve_X3 tyX3 tyX3_ok nmX3 hown hK hP hD hS 0 rfl rfl 13 (by decide) (hts (Cond.fieldLink RX3 144 "ShareDiskModel" "urgents" "I") mwX3_serve_19) (fun _ h9 => h9) rfl (by decide +kernel) rfl rfl (Nat.le_of_ble_eq_true rfl) dX3_serve_127 (fun H locs hP hD hS => ?_)
      have hP : va_P D vwCl (MoW q k tr (ck + (((v / (nI 100)) + (sz t)).toInt64)) ((fi t) + (sz t)) (po + v.toInt64) th we bu tg se gr ba tn sn (un + 1) ow fi sz so wr (upd dn t (nI 1)) (upd ur t w) dl sl le) H := hP
      have hD : va_D A (MoW q k tr (ck + (((v / (nI 100)) + (sz t)).toInt64)) ((fi t) + (sz t)) (po + v.toInt64) th we bu tg se gr ba tn sn (un + 1) ow fi sz so wr (upd dn t (nI 1)) (upd ur t w) dl sl le) := hD
      exact cut130 (un + 1) _ _ _ (by simp [c9]) hP hD hS (lv_sub hl [0, 1, 2, 3, 4] rfl)
  refine lv_aload_n hx hb dX3_serve_7 rfl (lv_at hl 1 rfl) ?_
  refine va_get (D := D) (ci := 3) (v := .ref (q 9)) (C := RX3) (T := TX3) (N := 24) hx hb hts iwX3_serve_X3 hown hK hP 0 rfl rfl 15 (by decide) (hts (Cond.fieldLink RX3 36 "ShareDiskModel" "first" "[I") mwX3_serve_4) (fun _ h9 => h9) rfl dX3_serve_8 ?_
  refine lv_iload_n hx hb dX3_serve_11 rfl (lv_at hl 2 rfl) ?_
  refine aI hx hb hK hP 9 1 rfl rfl (ix5 (by omega)) dX3_serve_12 ?_
  refine lv_aload_n hx hb dX3_serve_13 rfl (lv_at hl 1 rfl) ?_
  refine va_get (D := D) (ci := 3) (v := .int hd) (C := RX3) (T := TX3) (N := 24) hx hb hts iwX3_serve_X3 hown hK hP 0 rfl rfl 2 (by decide) (hts (Cond.fieldLink RX3 120 "ShareDiskModel" "head" "I") mwX3_serve_5) (fun _ h9 => h9) rfl dX3_serve_14 ?_
  refine lv_icmp_le (tgt := 34) hx hb dX3_serve_17 (by decide) (fun c10 => ?_) (fun c10 => ?_)
  · refine lv_aload_n hx hb dX3_serve_34 rfl (lv_at hl 1 rfl) ?_
    refine va_get (D := D) (ci := 3) (v := .int hd) (C := RX3) (T := TX3) (N := 24) hx hb hts iwX3_serve_X3 hown hK hP 0 rfl rfl 2 (by decide) (hts (Cond.fieldLink RX3 120 "ShareDiskModel" "head" "I") mwX3_serve_5) (fun _ h9 => h9) rfl dX3_serve_35 ?_
    refine lv_aload_n hx hb dX3_serve_38 rfl (lv_at hl 1 rfl) ?_
    refine va_get (D := D) (ci := 3) (v := .ref (q 9)) (C := RX3) (T := TX3) (N := 24) hx hb hts iwX3_serve_X3 hown hK hP 0 rfl rfl 15 (by decide) (hts (Cond.fieldLink RX3 36 "ShareDiskModel" "first" "[I") mwX3_serve_4) (fun _ h9 => h9) rfl dX3_serve_39 ?_
    refine lv_iload_n hx hb dX3_serve_42 rfl (lv_at hl 2 rfl) ?_
    refine aI hx hb hK hP 9 1 rfl rfl (ix5 (by omega)) dX3_serve_43 ?_
    refine lv_isub hx hb dX3_serve_44 ?_
    refine lv_istore (lv' := [(4, .int (hd - (fi t))), (3, .int (nI o)), (0, .ref (q 0)), (1, .int (nI t)), (2, .int w)]) hx hb dX3_serve_45 hl (by decide) rfl (fun ls hl => ?_)
    exact cut47 _ s.heap _ _ (by simp [waF, c10]) hP hD hS (lv_sub hl [2, 3, 4, 1, 0] rfl)
  · refine lv_aload_n hx hb dX3_serve_20 rfl (lv_at hl 1 rfl) ?_
    refine va_get (D := D) (ci := 3) (v := .ref (q 9)) (C := RX3) (T := TX3) (N := 24) hx hb hts iwX3_serve_X3 hown hK hP 0 rfl rfl 15 (by decide) (hts (Cond.fieldLink RX3 36 "ShareDiskModel" "first" "[I") mwX3_serve_4) (fun _ h9 => h9) rfl dX3_serve_21 ?_
    refine lv_iload_n hx hb dX3_serve_24 rfl (lv_at hl 2 rfl) ?_
    refine aI hx hb hK hP 9 1 rfl rfl (ix5 (by omega)) dX3_serve_25 ?_
    refine lv_aload_n hx hb dX3_serve_26 rfl (lv_at hl 1 rfl) ?_
    refine va_get (D := D) (ci := 3) (v := .int hd) (C := RX3) (T := TX3) (N := 24) hx hb hts iwX3_serve_X3 hown hK hP 0 rfl rfl 2 (by decide) (hts (Cond.fieldLink RX3 120 "ShareDiskModel" "head" "I") mwX3_serve_5) (fun _ h9 => h9) rfl dX3_serve_27 ?_
    refine lv_isub hx hb dX3_serve_30 ?_
    refine lv_goto (tgt := 45) hx hb dX3_serve_31 (by decide) ?_
    refine lv_istore (lv' := [(4, .int ((fi t) - hd)), (3, .int (nI o)), (0, .ref (q 0)), (1, .int (nI t)), (2, .int w)]) hx hb dX3_serve_45 hl (by decide) rfl (fun ls hl => ?_)
    exact cut47 _ s.heap _ _ (by simp [waF, c10]) hP hD hS (lv_sub hl [2, 3, 4, 1, 0] rfl)
/-- the reference behind a service -/
def svM (q : Nat → Nat) (k : Nat → ClassId) (tr : Int32) (ck : Int64) (hd : Int32) (po : Int64) (th we bu : Nat → Int32) (tg se gr ba : Nat → Int64) (tn sn un : Nat) (ow fi sz so wr dn ur : Nat → Int32) (dl : Nat → Int64) (sl le : Int32) (t : Nat) (w : Int32) (o : Nat) : va_W := MoW q k tr (ck + (waF fi hd t / nI 100 + sz t).toInt64) (fi t + sz t) (po + (waF fi hd t).toInt64) th we bu (if sn + 1 = tn then smT th (vp_updL tg o (tg o + (27720) * (sz t).toInt64 / (we o).toInt64)) 8 else vp_updL tg o (tg o + (27720) * (sz t).toInt64 / (we o).toInt64)) (vp_updL se o (se o + (sz t).toInt64)) (vp_updL gr o (gr o + (27720) * (sz t).toInt64 / (we o).toInt64)) ba tn (sn + 1) (if w = 0 then un else un + 1) ow fi sz (upd so sn (nI t)) wr (upd dn t (nI 1)) (upd ur t w) dl (if sl = nI o ∧ ((if sl = nI o then le - sz t else le) ≤ 0 ∨ nI (wcN (upd dn t (nI 1)) ow (nI o) tn) = 0) then (-1) else sl) (if sl = nI o ∧ ((if sl = nI o then le - sz t else le) ≤ 0 ∨ nI (wcN (upd dn t (nI 1)) ow (nI o) tn) = 0) then nI 0 else (if sl = nI o then le - sz t else le))
/-- choose, where there is no slice -/
abbrev chP (sl le : Int32) (tg : Nat → Int64) (dn ow bu : Nat → Int32) (tn : Nat) (sl1 le1 : Int32) (tg1 : Nat → Int64) : Prop :=
  (¬ sl = -1 ∧ sl1 = sl ∧ le1 = le ∧ tg1 = tg) ∨ (sl = -1 ∧ ∃ j, nit (wcI dn ow tn) tg 8 = some j ∧ sl1 = nI j ∧ le1 = bu j ∧ tg1 = vp_updL tg 8 (tg j))
theorem mwX3_dispatch_0 : Cond.fieldLink RX3 61 "ShareDiskModel" "thrown" "I" ∈ wsX3_dispatch := by decide +kernel
theorem mwX3_dispatch_1 : Cond.fieldLink RX3 124 "ShareDiskModel" "served" "I" ∈ wsX3_dispatch := by decide +kernel
theorem mwX3_dispatch_2 : Cond.fieldLink RX3 70 "ShareDiskModel" "tickets" "I" ∈ wsX3_dispatch := by decide +kernel
theorem mwX3_dispatch_3 : Cond.fieldLink RX3 57 "ShareDiskModel" "slice" "I" ∈ wsX3_dispatch := by decide +kernel
theorem iwX3_dispatch_X3 : ∀ w ∈ wsX30, w ∈ wsX3_dispatch := by decide +kernel
set_option maxHeartbeats 4000000 in
set_option maxRecDepth 100000 in
theorem kX3_dispatch (l : Launch) (D : va_G) (k : Nat → ClassId) (q : Nat → Nat) (zz : Nat) (tr : Int32) (ck : Int64) (hd : Int32) (po : Int64) (th we bu : Nat → Int32) (tg se gr ba : Nat → Int64) (tn sn un : Nat) (ow fi sz so wr dn ur : Nat → Int32) (dl : Nat → Int64) (sl le : Int32) (htn : tn ≤ 500) (hsn : sn ≤ tn) (how8 : ∀ t, t < tn → ∃ o, o < 8 ∧ ow t = nI o ∧ ¬ (we o).toInt64 = 0) (hch : ¬ sn = tn → sl = -1 → ∃ j, nit (wcI dn ow tn) tg 8 = some j) (hnx : ¬ sn = tn → ∀ sl1 le1 tg1, chP sl le tg dn ow bu tn sl1 le1 tg1 → ∃ t, nxF dn ow wr fi sz sl1 hd tn = some t) : MI l yX3_dispatch wsX3_dispatch ({ frames := 3, cells := 0, slots := 0, locals := 67 } : Room) D k (MoW q k tr ck hd po th we bu tg se gr ba tn sn un ow fi sz so wr dn ur dl sl le) zz [.ref (q 0)] (fun r9 w9 => (sn = tn ∧ r9 = -1 ∧ w9 = MoW q k (nI 0) ck hd po th we bu tg se gr ba tn sn un ow fi sz so wr dn ur dl sl le) ∨ (¬ sn = tn ∧ ((∃ t o, duF dn ow wr fi sz dl ck tn = some t ∧ o < 8 ∧ ow t = nI o ∧ r9 = nI t ∧ w9 = svM q k (nI 0) ck hd po th we bu tg se gr ba tn sn un ow fi sz so wr dn ur dl sl le t (nI 1) o) ∨ (duF dn ow wr fi sz dl ck tn = none ∧ ∃ sl1 le1 tg1, chP sl le tg dn ow bu tn sl1 le1 tg1 ∧ ∃ t o, nxF dn ow wr fi sz sl1 hd tn = some t ∧ o < 8 ∧ ow t = nI o ∧ r9 = nI t ∧ w9 = svM q k (nI 0) ck hd po th we bu tg1 se gr ba tn sn un ow fi sz so wr dn ur dl sl1 le1 t (nI 0) o)))) 0 0 := by
  refine bodyOf (Qc := fun A => QI D k (fun r9 w9 => (sn = tn ∧ r9 = -1 ∧ w9 = MoW q k (nI 0) ck hd po th we bu tg se gr ba tn sn un ow fi sz so wr dn ur dl sl le) ∨ (¬ sn = tn ∧ ((∃ t o, duF dn ow wr fi sz dl ck tn = some t ∧ o < 8 ∧ ow t = nI o ∧ r9 = nI t ∧ w9 = svM q k (nI 0) ck hd po th we bu tg se gr ba tn sn un ow fi sz so wr dn ur dl sl le t (nI 1) o) ∨ (duF dn ow wr fi sz dl ck tn = none ∧ ∃ sl1 le1 tg1, chP sl le tg dn ow bu tn sl1 le1 tg1 ∧ ∃ t o, nxF dn ow wr fi sz sl1 hd tn = some t ∧ o < 8 ∧ ow t = nI o ∧ r9 = nI t ∧ w9 = svM q k (nI 0) ck hd po th we bu tg1 se gr ba tn sn un ow fi sz so wr dn ur dl sl1 le1 t (nI 0) o)))) A) (cc := cX3_dispatch) (maxL := 3) (ret := (some .int)) (by decide) rfl (Nat.le_of_ble_eq_true rfl) ?_
  intro p e s m below meth c A ls hc hA hK hP hD hS hl
  obtain ⟨hx, hb, hml, hr, hts, hown, hlocks, hin⟩ := (show _ from hc)
  have hl : lv_has ls 3 [(0, .ref (q 0))] := hl
  refine lv_aload_n hx hb dX3_dispatch_0 rfl (lv_at hl 0 rfl) ?_
  refine lv_iconst (v := nI 0) hx hb dX3_dispatch_1 (by decide) ?_
  refine va_put (D := D) (ci := 3) (v := .int (nI 0)) (ty := .int) (C := RX3) (T := TX3) (N := 24) hx hb hts iwX3_dispatch_X3 tyX3 tyX3_ok nmX3 hown hK hP hD hS 0 rfl rfl 0 (by decide) (hts (Cond.fieldLink RX3 61 "ShareDiskModel" "thrown" "I") mwX3_dispatch_0) (fun _ h9 => h9) rfl (by decide +kernel) rfl rfl (Nat.le_of_ble_eq_true rfl) dX3_dispatch_2 (fun H locs hP hD hS => ?_)
  have hP : va_P D vwCl (MoW q k (nI 0) ck hd po th we bu tg se gr ba tn sn un ow fi sz so wr dn ur dl sl le) H := hP
  have hD : va_D A (MoW q k (nI 0) ck hd po th we bu tg se gr ba tn sn un ow fi sz so wr dn ur dl sl le) := hD
  refine lv_aload_n hx hb dX3_dispatch_5 rfl (lv_at hl 0 rfl) ?_
  refine va_get (D := D) (ci := 3) (v := .int (nI sn)) (C := RX3) (T := TX3) (N := 24) hx hb hts iwX3_dispatch_X3 hown hK hP 0 rfl rfl 12 (by decide) (hts (Cond.fieldLink RX3 124 "ShareDiskModel" "served" "I") mwX3_dispatch_1) (fun _ h9 => h9) rfl dX3_dispatch_6 ?_
  refine lv_aload_n hx hb dX3_dispatch_9 rfl (lv_at hl 0 rfl) ?_
  refine va_get (D := D) (ci := 3) (v := .int (nI tn)) (C := RX3) (T := TX3) (N := 24) hx hb hts iwX3_dispatch_X3 hown hK hP 0 rfl rfl 11 (by decide) (hts (Cond.fieldLink RX3 70 "ShareDiskModel" "tickets" "I") mwX3_dispatch_2) (fun _ h9 => h9) rfl dX3_dispatch_10 ?_
  refine lv_icmp_ne (tgt := 18) hx hb dX3_dispatch_13 (by decide) (fun c1 => ?_) (fun c1 => ?_)
  · have hne : ¬ sn = tn := fun h => c1 (by rw [h])
    refine lv_aload_n hx hb dX3_dispatch_18 rfl (lv_at hl 0 rfl) ?_
    refine goVI0 hc (kX3_due l D k q H.size (nI 0) ck hd po th we bu tg se gr ba tn sn un ow fi sz so wr dn ur dl sl le (htn)) (cwV 0 hts gX3_dispatch_X3_due rfl rfl rfl (by decide +kernel) ⟨(Nat.le_of_ble_eq_true rfl), (Nat.le_of_ble_eq_true rfl)⟩) hP hD hK hS hA (ci := 3) (q0 := 0) rfl rfl rfl hl.1 rfl (Nat.le_of_ble_eq_true rfl) dX3_dispatch_19 (Nat.le_of_ble_eq_true rfl) (Nat.le_of_ble_eq_true rfl) (fun r9 B9 H locs hq hP hD hS => ?_)
    obtain ⟨hr9, rfl⟩ := hq
    subst hr9
    obtain ⟨bt, ebt⟩ : ∃ z9, z9 = duF dn ow wr fi sz dl ck tn := ⟨_, rfl⟩
    rw [← ebt]
    have hP : va_P D vwCl (MoW q k (nI 0) ck hd po th we bu tg se gr ba tn sn un ow fi sz so wr dn ur dl sl le) H := hP
    have hD : va_D A (MoW q k (nI 0) ck hd po th we bu tg se gr ba tn sn un ow fi sz so wr dn ur dl sl le) := hD
    refine lv_istore_n (lv' := [(1, .int (oI bt)), (0, .ref (q 0))]) hx hb dX3_dispatch_22 rfl hl (by decide) rfl (fun ls hl => ?_)
    rcases bt with _ | j
    · have hl : lv_has ls 3 [(1, .int (-1)), (0, .ref (q 0))] := hl
      refine lv_iload_n hx hb dX3_dispatch_23 rfl (lv_at hl 0 rfl) ?_
      refine lv_iconst (v := (-1)) hx hb dX3_dispatch_24 (by decide) ?_
      refine lv_icmp_eq (tgt := 32) hx hb dX3_dispatch_25 (by decide) (fun c2 => ?_) (fun c2 => False.elim (c2 rfl))
      refine lv_iconst (v := nI 0) hx hb dX3_dispatch_32 (by decide) ?_
      refine lv_istore_n (lv' := [(2, .int (nI 0)), (1, .int (-1)), (0, .ref (q 0))]) hx hb dX3_dispatch_33 rfl hl (by decide) rfl (fun ls hl => ?_)
      refine lv_iload_n hx hb dX3_dispatch_34 rfl (lv_at hl 0 rfl) ?_
      refine lv_if_ne (tgt := 50) hx hb dX3_dispatch_35 (by decide) (fun c3 => False.elim (c3 (by decide))) (fun c3 => ?_)
      refine lv_aload_n hx hb dX3_dispatch_38 rfl (lv_at hl 2 rfl) ?_
      refine va_get (D := D) (ci := 3) (v := .int sl) (C := RX3) (T := TX3) (N := 24) hx hb hts iwX3_dispatch_X3 hown hK hP 0 rfl rfl 22 (by decide) (hts (Cond.fieldLink RX3 57 "ShareDiskModel" "slice" "I") mwX3_dispatch_3) (fun _ h9 => h9) rfl dX3_dispatch_39 ?_
      refine lv_iconst (v := (-1)) hx hb dX3_dispatch_42 (by decide) ?_
      refine lv_icmp_ne (tgt := 50) hx hb dX3_dispatch_43 (by decide) (fun c4 => ?_) (fun c4 => ?_)
      · refine lv_iload_n hx hb dX3_dispatch_50 rfl (lv_at hl 0 rfl) ?_
        refine lv_if_ne (tgt := 59) hx hb dX3_dispatch_51 (by decide) (fun c5 => False.elim (c5 (by decide))) (fun c5 => ?_)
        refine lv_aload_n hx hb dX3_dispatch_54 rfl (lv_at hl 2 rfl) ?_
        refine goVI0 hc (kX3_next l D k q H.size (nI 0) ck hd po th we bu tg se gr ba tn sn un ow fi sz so wr dn ur dl sl le (htn)) (cwV 0 hts gX3_dispatch_X3_next rfl rfl rfl (by decide +kernel) ⟨(Nat.le_of_ble_eq_true rfl), (Nat.le_of_ble_eq_true rfl)⟩) hP hD hK hS hA (ci := 3) (q0 := 0) rfl rfl rfl hl.1 rfl (Nat.le_of_ble_eq_true rfl) dX3_dispatch_55 (Nat.le_of_ble_eq_true rfl) (Nat.le_of_ble_eq_true rfl) (fun r9 B9 H locs hq hP hD hS => ?_)
        obtain ⟨hr9, rfl⟩ := hq
        subst hr9
        have hP : va_P D vwCl (MoW q k (nI 0) ck hd po th we bu tg se gr ba tn sn un ow fi sz so wr dn ur dl sl le) H := hP
        have hD : va_D A (MoW q k (nI 0) ck hd po th we bu tg se gr ba tn sn un ow fi sz so wr dn ur dl sl le) := hD
        have hch9 := (Or.inl ⟨c4, rfl, rfl, rfl⟩ : chP sl le tg dn ow bu tn (sl) (le) (tg))
        obtain ⟨t9, ht9⟩ := hnx hne _ _ _ hch9
        rw [ht9]
        refine lv_istore_n (lv' := [(1, .int (nI t9)), (2, .int (nI 0)), (0, .ref (q 0))]) hx hb dX3_dispatch_58 rfl hl (by decide) rfl (fun ls hl => ?_)
        have htt : t9 < tn := nxF_lt _ _ ht9
        obtain ⟨o, ho, how, hwe⟩ := how8 t9 htt
        refine lv_aload_n hx hb dX3_dispatch_59 rfl (lv_at hl 2 rfl) ?_
        refine lv_iload_n hx hb dX3_dispatch_60 rfl (lv_at hl 0 rfl) ?_
        refine lv_iload_n hx hb dX3_dispatch_61 rfl (lv_at hl 1 rfl) ?_
        refine goVV0 hc (kX3_serve l D k q H.size (nI 0) ck hd po th we bu tg se gr ba tn sn un ow fi sz so wr dn ur dl sl le t9 (nI 0) o (htt) (htn) (by omega) (ho) (how) (hwe) (by first | exact Or.inl rfl | exact Or.inr rfl)) (cwV 2 hts gX3_dispatch_X3_serve rfl rfl rfl (by decide +kernel) ⟨(Nat.le_of_ble_eq_true rfl), (Nat.le_of_ble_eq_true rfl)⟩) hP hD hK hS hA (ci := 3) (q0 := 0) rfl rfl rfl hl.1 rfl (Nat.le_of_ble_eq_true rfl) dX3_dispatch_62 (Nat.le_of_ble_eq_true rfl) (Nat.le_of_ble_eq_true rfl) (fun B9 H locs hq hP hD hS => ?_)
        subst hq
        have hP : va_P D vwCl (MoW q k (nI 0) (ck + (waF fi hd t9 / nI 100 + sz t9).toInt64) (fi t9 + sz t9) (po + (waF fi hd t9).toInt64) th we bu (if sn + 1 = tn then smT th (vp_updL tg o (tg o + (27720) * (sz t9).toInt64 / (we o).toInt64)) 8 else vp_updL tg o (tg o + (27720) * (sz t9).toInt64 / (we o).toInt64)) (vp_updL se o (se o + (sz t9).toInt64)) (vp_updL gr o (gr o + (27720) * (sz t9).toInt64 / (we o).toInt64)) ba tn (sn + 1) (if (nI 0) = 0 then un else un + 1) ow fi sz (upd so sn (nI t9)) wr (upd dn t9 (nI 1)) (upd ur t9 (nI 0)) dl (if sl = nI o ∧ ((if sl = nI o then le - sz t9 else le) ≤ 0 ∨ nI (wcN (upd dn t9 (nI 1)) ow (nI o) tn) = 0) then (-1) else sl) (if sl = nI o ∧ ((if sl = nI o then le - sz t9 else le) ≤ 0 ∨ nI (wcN (upd dn t9 (nI 1)) ow (nI o) tn) = 0) then nI 0 else (if sl = nI o then le - sz t9 else le))) H := hP
        have hD : va_D A (MoW q k (nI 0) (ck + (waF fi hd t9 / nI 100 + sz t9).toInt64) (fi t9 + sz t9) (po + (waF fi hd t9).toInt64) th we bu (if sn + 1 = tn then smT th (vp_updL tg o (tg o + (27720) * (sz t9).toInt64 / (we o).toInt64)) 8 else vp_updL tg o (tg o + (27720) * (sz t9).toInt64 / (we o).toInt64)) (vp_updL se o (se o + (sz t9).toInt64)) (vp_updL gr o (gr o + (27720) * (sz t9).toInt64 / (we o).toInt64)) ba tn (sn + 1) (if (nI 0) = 0 then un else un + 1) ow fi sz (upd so sn (nI t9)) wr (upd dn t9 (nI 1)) (upd ur t9 (nI 0)) dl (if sl = nI o ∧ ((if sl = nI o then le - sz t9 else le) ≤ 0 ∨ nI (wcN (upd dn t9 (nI 1)) ow (nI o) tn) = 0) then (-1) else sl) (if sl = nI o ∧ ((if sl = nI o then le - sz t9 else le) ≤ 0 ∨ nI (wcN (upd dn t9 (nI 1)) ow (nI o) tn) = 0) then nI 0 else (if sl = nI o then le - sz t9 else le))) := hD
        refine lv_iload_n hx hb dX3_dispatch_65 rfl (lv_at hl 0 rfl) ?_
        exact retI hc dX3_dispatch_66 hK hP hD hS (Or.inr ⟨hne, Or.inr ⟨rfl, _, _, _, hch9, t9, o, ht9, ho, how, rfl, rfl⟩⟩) (Nat.le_of_ble_eq_true rfl) (Nat.le_of_ble_eq_true rfl)
      · obtain ⟨jj, hjj⟩ := hch hne c4
        refine lv_aload_n hx hb dX3_dispatch_46 rfl (lv_at hl 2 rfl) ?_
        refine goVV0 hc (kX3_choose l D k q H.size (nI 0) ck hd po th we bu tg se gr ba tn sn un ow fi sz so wr dn ur dl sl le jj (htn) (c4) (hjj)) (cwV 0 hts gX3_dispatch_X3_choose rfl rfl rfl (by decide +kernel) ⟨(Nat.le_of_ble_eq_true rfl), (Nat.le_of_ble_eq_true rfl)⟩) hP hD hK hS hA (ci := 3) (q0 := 0) rfl rfl rfl hl.1 rfl (Nat.le_of_ble_eq_true rfl) dX3_dispatch_47 (Nat.le_of_ble_eq_true rfl) (Nat.le_of_ble_eq_true rfl) (fun B9 H locs hq hP hD hS => ?_)
        subst hq
        have hP : va_P D vwCl (MoW q k (nI 0) ck hd po th we bu (vp_updL tg 8 (tg jj)) se gr ba tn sn un ow fi sz so wr dn ur dl (nI jj) (bu jj)) H := hP
        have hD : va_D A (MoW q k (nI 0) ck hd po th we bu (vp_updL tg 8 (tg jj)) se gr ba tn sn un ow fi sz so wr dn ur dl (nI jj) (bu jj)) := hD
        refine lv_iload_n hx hb dX3_dispatch_50 rfl (lv_at hl 0 rfl) ?_
        refine lv_if_ne (tgt := 59) hx hb dX3_dispatch_51 (by decide) (fun c6 => False.elim (c6 (by decide))) (fun c6 => ?_)
        refine lv_aload_n hx hb dX3_dispatch_54 rfl (lv_at hl 2 rfl) ?_
        refine goVI0 hc (kX3_next l D k q H.size (nI 0) ck hd po th we bu (vp_updL tg 8 (tg jj)) se gr ba tn sn un ow fi sz so wr dn ur dl (nI jj) (bu jj) (htn)) (cwV 0 hts gX3_dispatch_X3_next rfl rfl rfl (by decide +kernel) ⟨(Nat.le_of_ble_eq_true rfl), (Nat.le_of_ble_eq_true rfl)⟩) hP hD hK hS hA (ci := 3) (q0 := 0) rfl rfl rfl hl.1 rfl (Nat.le_of_ble_eq_true rfl) dX3_dispatch_55 (Nat.le_of_ble_eq_true rfl) (Nat.le_of_ble_eq_true rfl) (fun r9 B9 H locs hq hP hD hS => ?_)
        obtain ⟨hr9, rfl⟩ := hq
        subst hr9
        have hP : va_P D vwCl (MoW q k (nI 0) ck hd po th we bu (vp_updL tg 8 (tg jj)) se gr ba tn sn un ow fi sz so wr dn ur dl (nI jj) (bu jj)) H := hP
        have hD : va_D A (MoW q k (nI 0) ck hd po th we bu (vp_updL tg 8 (tg jj)) se gr ba tn sn un ow fi sz so wr dn ur dl (nI jj) (bu jj)) := hD
        have hch9 := (Or.inr ⟨c4, jj, hjj, rfl, rfl, rfl⟩ : chP sl le tg dn ow bu tn (nI jj) (bu jj) (vp_updL tg 8 (tg jj)))
        obtain ⟨t9, ht9⟩ := hnx hne _ _ _ hch9
        rw [ht9]
        refine lv_istore_n (lv' := [(1, .int (nI t9)), (2, .int (nI 0)), (0, .ref (q 0))]) hx hb dX3_dispatch_58 rfl hl (by decide) rfl (fun ls hl => ?_)
        have htt : t9 < tn := nxF_lt _ _ ht9
        obtain ⟨o, ho, how, hwe⟩ := how8 t9 htt
        refine lv_aload_n hx hb dX3_dispatch_59 rfl (lv_at hl 2 rfl) ?_
        refine lv_iload_n hx hb dX3_dispatch_60 rfl (lv_at hl 0 rfl) ?_
        refine lv_iload_n hx hb dX3_dispatch_61 rfl (lv_at hl 1 rfl) ?_
        refine goVV0 hc (kX3_serve l D k q H.size (nI 0) ck hd po th we bu (vp_updL tg 8 (tg jj)) se gr ba tn sn un ow fi sz so wr dn ur dl (nI jj) (bu jj) t9 (nI 0) o (htt) (htn) (by omega) (ho) (how) (hwe) (by first | exact Or.inl rfl | exact Or.inr rfl)) (cwV 2 hts gX3_dispatch_X3_serve rfl rfl rfl (by decide +kernel) ⟨(Nat.le_of_ble_eq_true rfl), (Nat.le_of_ble_eq_true rfl)⟩) hP hD hK hS hA (ci := 3) (q0 := 0) rfl rfl rfl hl.1 rfl (Nat.le_of_ble_eq_true rfl) dX3_dispatch_62 (Nat.le_of_ble_eq_true rfl) (Nat.le_of_ble_eq_true rfl) (fun B9 H locs hq hP hD hS => ?_)
        subst hq
        have hP : va_P D vwCl (MoW q k (nI 0) (ck + (waF fi hd t9 / nI 100 + sz t9).toInt64) (fi t9 + sz t9) (po + (waF fi hd t9).toInt64) th we bu (if sn + 1 = tn then smT th (vp_updL (vp_updL tg 8 (tg jj)) o ((vp_updL tg 8 (tg jj)) o + (27720) * (sz t9).toInt64 / (we o).toInt64)) 8 else vp_updL (vp_updL tg 8 (tg jj)) o ((vp_updL tg 8 (tg jj)) o + (27720) * (sz t9).toInt64 / (we o).toInt64)) (vp_updL se o (se o + (sz t9).toInt64)) (vp_updL gr o (gr o + (27720) * (sz t9).toInt64 / (we o).toInt64)) ba tn (sn + 1) (if (nI 0) = 0 then un else un + 1) ow fi sz (upd so sn (nI t9)) wr (upd dn t9 (nI 1)) (upd ur t9 (nI 0)) dl (if (nI jj) = nI o ∧ ((if (nI jj) = nI o then (bu jj) - sz t9 else (bu jj)) ≤ 0 ∨ nI (wcN (upd dn t9 (nI 1)) ow (nI o) tn) = 0) then (-1) else (nI jj)) (if (nI jj) = nI o ∧ ((if (nI jj) = nI o then (bu jj) - sz t9 else (bu jj)) ≤ 0 ∨ nI (wcN (upd dn t9 (nI 1)) ow (nI o) tn) = 0) then nI 0 else (if (nI jj) = nI o then (bu jj) - sz t9 else (bu jj)))) H := hP
        have hD : va_D A (MoW q k (nI 0) (ck + (waF fi hd t9 / nI 100 + sz t9).toInt64) (fi t9 + sz t9) (po + (waF fi hd t9).toInt64) th we bu (if sn + 1 = tn then smT th (vp_updL (vp_updL tg 8 (tg jj)) o ((vp_updL tg 8 (tg jj)) o + (27720) * (sz t9).toInt64 / (we o).toInt64)) 8 else vp_updL (vp_updL tg 8 (tg jj)) o ((vp_updL tg 8 (tg jj)) o + (27720) * (sz t9).toInt64 / (we o).toInt64)) (vp_updL se o (se o + (sz t9).toInt64)) (vp_updL gr o (gr o + (27720) * (sz t9).toInt64 / (we o).toInt64)) ba tn (sn + 1) (if (nI 0) = 0 then un else un + 1) ow fi sz (upd so sn (nI t9)) wr (upd dn t9 (nI 1)) (upd ur t9 (nI 0)) dl (if (nI jj) = nI o ∧ ((if (nI jj) = nI o then (bu jj) - sz t9 else (bu jj)) ≤ 0 ∨ nI (wcN (upd dn t9 (nI 1)) ow (nI o) tn) = 0) then (-1) else (nI jj)) (if (nI jj) = nI o ∧ ((if (nI jj) = nI o then (bu jj) - sz t9 else (bu jj)) ≤ 0 ∨ nI (wcN (upd dn t9 (nI 1)) ow (nI o) tn) = 0) then nI 0 else (if (nI jj) = nI o then (bu jj) - sz t9 else (bu jj)))) := hD
        refine lv_iload_n hx hb dX3_dispatch_65 rfl (lv_at hl 0 rfl) ?_
        exact retI hc dX3_dispatch_66 hK hP hD hS (Or.inr ⟨hne, Or.inr ⟨rfl, _, _, _, hch9, t9, o, ht9, ho, how, rfl, rfl⟩⟩) (Nat.le_of_ble_eq_true rfl) (Nat.le_of_ble_eq_true rfl)
    · have hl : lv_has ls 3 [(1, .int (nI j)), (0, .ref (q 0))] := hl
      refine lv_iload_n hx hb dX3_dispatch_23 rfl (lv_at hl 0 rfl) ?_
      refine lv_iconst (v := (-1)) hx hb dX3_dispatch_24 (by decide) ?_
      refine lv_icmp_eq (tgt := 32) hx hb dX3_dispatch_25 (by decide) (fun c7 => False.elim (nI_ne_m1 (show j < 2 ^ 31 by have := duF_lt _ _ ebt.symm; omega) c7)) (fun c7 => ?_)
      refine lv_iconst (v := nI 1) hx hb dX3_dispatch_28 (by decide) ?_
      refine lv_goto (tgt := 33) hx hb dX3_dispatch_29 (by decide) ?_
      refine lv_istore_n (lv' := [(2, .int (nI 1)), (1, .int (nI j)), (0, .ref (q 0))]) hx hb dX3_dispatch_33 rfl hl (by decide) rfl (fun ls hl => ?_)
      refine lv_iload_n hx hb dX3_dispatch_34 rfl (lv_at hl 0 rfl) ?_
      refine lv_if_ne (tgt := 50) hx hb dX3_dispatch_35 (by decide) (fun c8 => ?_) (fun c8 => False.elim (absurd c8 (by decide)))
      refine lv_iload_n hx hb dX3_dispatch_50 rfl (lv_at hl 0 rfl) ?_
      refine lv_if_ne (tgt := 59) hx hb dX3_dispatch_51 (by decide) (fun c9 => ?_) (fun c9 => False.elim (absurd c9 (by decide)))
      have htt : j < tn := duF_lt _ _ ebt.symm
      obtain ⟨o, ho, how, hwe⟩ := how8 j htt
      refine lv_aload_n hx hb dX3_dispatch_59 rfl (lv_at hl 2 rfl) ?_
      refine lv_iload_n hx hb dX3_dispatch_60 rfl (lv_at hl 1 rfl) ?_
      refine lv_iload_n hx hb dX3_dispatch_61 rfl (lv_at hl 0 rfl) ?_
      refine goVV0 hc (kX3_serve l D k q H.size (nI 0) ck hd po th we bu tg se gr ba tn sn un ow fi sz so wr dn ur dl sl le j (nI 1) o (htt) (htn) (by omega) (ho) (how) (hwe) (by first | exact Or.inl rfl | exact Or.inr rfl)) (cwV 2 hts gX3_dispatch_X3_serve rfl rfl rfl (by decide +kernel) ⟨(Nat.le_of_ble_eq_true rfl), (Nat.le_of_ble_eq_true rfl)⟩) hP hD hK hS hA (ci := 3) (q0 := 0) rfl rfl rfl hl.1 rfl (Nat.le_of_ble_eq_true rfl) dX3_dispatch_62 (Nat.le_of_ble_eq_true rfl) (Nat.le_of_ble_eq_true rfl) (fun B9 H locs hq hP hD hS => ?_)
      subst hq
      have hP : va_P D vwCl (MoW q k (nI 0) (ck + (waF fi hd j / nI 100 + sz j).toInt64) (fi j + sz j) (po + (waF fi hd j).toInt64) th we bu (if sn + 1 = tn then smT th (vp_updL tg o (tg o + (27720) * (sz j).toInt64 / (we o).toInt64)) 8 else vp_updL tg o (tg o + (27720) * (sz j).toInt64 / (we o).toInt64)) (vp_updL se o (se o + (sz j).toInt64)) (vp_updL gr o (gr o + (27720) * (sz j).toInt64 / (we o).toInt64)) ba tn (sn + 1) (if (nI 1) = 0 then un else un + 1) ow fi sz (upd so sn (nI j)) wr (upd dn j (nI 1)) (upd ur j (nI 1)) dl (if sl = nI o ∧ ((if sl = nI o then le - sz j else le) ≤ 0 ∨ nI (wcN (upd dn j (nI 1)) ow (nI o) tn) = 0) then (-1) else sl) (if sl = nI o ∧ ((if sl = nI o then le - sz j else le) ≤ 0 ∨ nI (wcN (upd dn j (nI 1)) ow (nI o) tn) = 0) then nI 0 else (if sl = nI o then le - sz j else le))) H := hP
      have hD : va_D A (MoW q k (nI 0) (ck + (waF fi hd j / nI 100 + sz j).toInt64) (fi j + sz j) (po + (waF fi hd j).toInt64) th we bu (if sn + 1 = tn then smT th (vp_updL tg o (tg o + (27720) * (sz j).toInt64 / (we o).toInt64)) 8 else vp_updL tg o (tg o + (27720) * (sz j).toInt64 / (we o).toInt64)) (vp_updL se o (se o + (sz j).toInt64)) (vp_updL gr o (gr o + (27720) * (sz j).toInt64 / (we o).toInt64)) ba tn (sn + 1) (if (nI 1) = 0 then un else un + 1) ow fi sz (upd so sn (nI j)) wr (upd dn j (nI 1)) (upd ur j (nI 1)) dl (if sl = nI o ∧ ((if sl = nI o then le - sz j else le) ≤ 0 ∨ nI (wcN (upd dn j (nI 1)) ow (nI o) tn) = 0) then (-1) else sl) (if sl = nI o ∧ ((if sl = nI o then le - sz j else le) ≤ 0 ∨ nI (wcN (upd dn j (nI 1)) ow (nI o) tn) = 0) then nI 0 else (if sl = nI o then le - sz j else le))) := hD
      refine lv_iload_n hx hb dX3_dispatch_65 rfl (lv_at hl 1 rfl) ?_
      exact retI hc dX3_dispatch_66 hK hP hD hS (Or.inr ⟨hne, Or.inl ⟨j, o, rfl, ho, how, rfl, rfl⟩⟩) (Nat.le_of_ble_eq_true rfl) (Nat.le_of_ble_eq_true rfl)
  · refine lv_iconst (v := (-1)) hx hb dX3_dispatch_16 (by decide) ?_
    exact retI hc dX3_dispatch_17 hK hP hD hS (Or.inl ⟨(nI_eq (by omega) (by omega)).mp c1, rfl, rfl⟩) (Nat.le_of_ble_eq_true rfl) (Nat.le_of_ble_eq_true rfl)
theorem mwX3_submit_0 : Cond.constantLong RX3 95 (99999) ∈ wsX3_submit := by decide +kernel
theorem mwX3_submit_1 : Cond.constantLong RX3 97 (64) ∈ wsX3_submit := by decide +kernel
theorem mwX3_submit_2 : Cond.constantLong RX3 99 (100000) ∈ wsX3_submit := by decide +kernel
theorem mwX3_submit_3 : Cond.constantLong RX3 101 (1000000) ∈ wsX3_submit := by decide +kernel
theorem mwX3_submit_4 : Cond.fieldLink RX3 70 "ShareDiskModel" "tickets" "I" ∈ wsX3_submit := by decide +kernel
theorem mwX3_submit_5 : Cond.fieldLink RX3 33 "ShareDiskModel" "clientOf" "[I" ∈ wsX3_submit := by decide +kernel
theorem mwX3_submit_6 : Cond.fieldLink RX3 36 "ShareDiskModel" "first" "[I" ∈ wsX3_submit := by decide +kernel
theorem mwX3_submit_7 : Cond.fieldLink RX3 39 "ShareDiskModel" "counts" "[I" ∈ wsX3_submit := by decide +kernel
theorem mwX3_submit_8 : Cond.fieldLink RX3 45 "ShareDiskModel" "writes" "[Z" ∈ wsX3_submit := by decide +kernel
theorem mwX3_submit_9 : Cond.fieldLink RX3 54 "ShareDiskModel" "deadlines" "[J" ∈ wsX3_submit := by decide +kernel
theorem mwX3_submit_10 : Cond.fieldLink RX3 107 "ShareDiskModel" "clock" "J" ∈ wsX3_submit := by decide +kernel
theorem iwX3_submit_X3 : ∀ w ∈ wsX30, w ∈ wsX3_submit := by decide +kernel
set_option maxHeartbeats 4000000 in
set_option maxRecDepth 100000 in
theorem kX3_submit (l : Launch) (D : va_G) (k : Nat → ClassId) (q : Nat → Nat) (zz : Nat) (tr : Int32) (ck : Int64) (hd : Int32) (po : Int64) (th we bu : Nat → Int32) (tg se gr ba : Nat → Int64) (tn sn un : Nat) (ow fi sz so wr dn ur : Nat → Int32) (dl : Nat → Int64) (sl le : Int32) (x : Int32) (w : Int32) (u : Int32) (v : Int32) (y : Int32) (htn : tn ≤ 500) (hw : w = 0 ∨ w = 1) : MI l yX3_submit wsX3_submit ({ frames := 2, cells := 0, slots := 0, locals := 46 } : Room) D k (MoW q k tr ck hd po th we bu tg se gr ba tn sn un ow fi sz so wr dn ur dl sl le) zz [.ref (q 0), .int x, .int w, .int u, .int v, .int y] (fun r9 w9 => (¬ (isT th x ∧ inwL u.toInt64 0 (99999) ∧ inwL v.toInt64 1 (64) ∧ ¬ (100000) < u.toInt64 + v.toInt64 ∧ inwL y.toInt64 0 (1000000)) ∧ r9 = nI 0 ∧ w9 = MoW q k (nI 1) ck hd po th we bu tg se gr ba tn sn un ow fi sz so wr dn ur dl sl le) ∨ ∃ j, j < 8 ∧ x = nI j ∧ ¬ th j = 0 ∧ (inwL u.toInt64 0 (99999) ∧ inwL v.toInt64 1 (64) ∧ ¬ (100000) < u.toInt64 + v.toInt64 ∧ inwL y.toInt64 0 (1000000)) ∧ (((wcI dn ow tn j = nI 64 ∨ nI tn = nI 500) ∧ r9 = -1 ∧ w9 = MoW q k (nI 0) ck hd po th we bu tg se gr ba tn sn un ow fi sz so wr dn ur dl sl le) ∨ (¬ wcI dn ow tn j = nI 64 ∧ ¬ nI tn = nI 500 ∧ r9 = nI tn ∧ w9 = MoW q k (nI 0) ck hd po th we bu (if wcI dn ow tn j = 0 then vp_updL tg j (if tg j ≤ tg 8 then tg 8 else tg j) else tg) se gr (if wcI dn ow tn j = 0 then beB ba gr j 8 else ba) (tn + 1) sn un (upd ow tn (nI j)) (upd fi tn u) (upd sz tn v) so (upd wr tn w) dn ur (vp_updL dl tn (ck + y.toInt64)) sl le))) 0 0 := by
  refine bodyOf (Qc := fun A => QI D k (fun r9 w9 => (¬ (isT th x ∧ inwL u.toInt64 0 (99999) ∧ inwL v.toInt64 1 (64) ∧ ¬ (100000) < u.toInt64 + v.toInt64 ∧ inwL y.toInt64 0 (1000000)) ∧ r9 = nI 0 ∧ w9 = MoW q k (nI 1) ck hd po th we bu tg se gr ba tn sn un ow fi sz so wr dn ur dl sl le) ∨ ∃ j, j < 8 ∧ x = nI j ∧ ¬ th j = 0 ∧ (inwL u.toInt64 0 (99999) ∧ inwL v.toInt64 1 (64) ∧ ¬ (100000) < u.toInt64 + v.toInt64 ∧ inwL y.toInt64 0 (1000000)) ∧ (((wcI dn ow tn j = nI 64 ∨ nI tn = nI 500) ∧ r9 = -1 ∧ w9 = MoW q k (nI 0) ck hd po th we bu tg se gr ba tn sn un ow fi sz so wr dn ur dl sl le) ∨ (¬ wcI dn ow tn j = nI 64 ∧ ¬ nI tn = nI 500 ∧ r9 = nI tn ∧ w9 = MoW q k (nI 0) ck hd po th we bu (if wcI dn ow tn j = 0 then vp_updL tg j (if tg j ≤ tg 8 then tg 8 else tg j) else tg) se gr (if wcI dn ow tn j = 0 then beB ba gr j 8 else ba) (tn + 1) sn un (upd ow tn (nI j)) (upd fi tn u) (upd sz tn v) so (upd wr tn w) dn ur (vp_updL dl tn (ck + y.toInt64)) sl le))) A) (cc := cX3_submit) (maxL := 9) (ret := (some .int)) (by decide) rfl (Nat.le_of_ble_eq_true rfl) ?_
  intro p e s m below meth c A ls hc hA hK hP hD hS hl
  obtain ⟨hx, hb, hml, hr, hts, hown, hlocks, hin⟩ := (show _ from hc)
  have hl : lv_has ls 9 [(0, .ref (q 0)), (1, .int x), (2, .int w), (3, .int u), (4, .int v), (5, .int y)] := hl
  refine lv_aload_n hx hb dX3_submit_0 rfl (lv_at hl 0 rfl) ?_
  refine lv_iload_n hx hb dX3_submit_1 rfl (lv_at hl 1 rfl) ?_
  refine goVI0 hc (kX3_isThere l D k q s.heap.size tr ck hd po th we bu tg se gr ba tn sn un ow fi sz so wr dn ur dl sl le x) (cwV 1 hts gX3_submit_X3_isThere rfl rfl rfl (by decide +kernel) ⟨(Nat.le_of_ble_eq_true rfl), (Nat.le_of_ble_eq_true rfl)⟩) hP hD hK hS hA (ci := 3) (q0 := 0) rfl rfl rfl hl.1 rfl (Nat.le_of_ble_eq_true rfl) dX3_submit_2 (Nat.le_of_ble_eq_true rfl) (Nat.le_of_ble_eq_true rfl) (fun r9 B9 H locs hq hP hD hS => ?_)
  obtain ⟨hr9, rfl⟩ := hq
  subst hr9
  have hP : va_P D vwCl (MoW q k tr ck hd po th we bu tg se gr ba tn sn un ow fi sz so wr dn ur dl sl le) H := hP
  have hD : va_D A (MoW q k tr ck hd po th we bu tg se gr ba tn sn un ow fi sz so wr dn ur dl sl le) := hD
  refine lv_if_eq (tgt := 63) hx hb dX3_submit_5 (by decide) (fun c1 => ?_) (fun c1 => ?_)
  · refine lv_iconst (v := nI 0) hx hb dX3_submit_63 (by decide) ?_
    refine lv_istore (lv' := [(6, .int (nI 0)), (0, .ref (q 0)), (1, .int x), (2, .int w), (3, .int u), (4, .int v), (5, .int y)]) hx hb dX3_submit_64 hl (by decide) rfl (fun ls hl => ?_)
    refine lv_aload_n hx hb dX3_submit_66 rfl (lv_at hl 1 rfl) ?_
    refine lv_iload hx hb dX3_submit_67 (lv_at hl 0 rfl) ?_
    refine lv_if_ne (tgt := 76) hx hb dX3_submit_69 (by decide) (fun c2 => False.elim (c2 (by decide))) (fun c2 => ?_)
    refine lv_iconst (v := nI 1) hx hb dX3_submit_72 (by decide) ?_
    refine lv_goto (tgt := 77) hx hb dX3_submit_73 (by decide) ?_
    refine lv_iconst (v := nI 0) hx hb dX3_submit_77 (by decide) ?_
    refine goVI0 hc (kX3_fails l D k q H.size tr ck hd po th we bu tg se gr ba tn sn un ow fi sz so wr dn ur dl sl le (nI 1) (nI 0)) (cwV 2 hts gX3_submit_X3_fails rfl rfl rfl (by decide +kernel) ⟨(Nat.le_of_ble_eq_true rfl), (Nat.le_of_ble_eq_true rfl)⟩) hP hD hK hS hA (ci := 3) (q0 := 0) rfl rfl rfl hl.1 rfl (Nat.le_of_ble_eq_true rfl) dX3_submit_78 (Nat.le_of_ble_eq_true rfl) (Nat.le_of_ble_eq_true rfl) (fun r9 B9 H locs hq hP hD hS => ?_)
    obtain ⟨hr9, rfl⟩ := hq
    subst hr9
    have hP : va_P D vwCl (MoW q k (flF (nI 1) (nI 0)) ck hd po th we bu tg se gr ba tn sn un ow fi sz so wr dn ur dl sl le) H := hP
    have hD : va_D A (MoW q k (flF (nI 1) (nI 0)) ck hd po th we bu tg se gr ba tn sn un ow fi sz so wr dn ur dl sl le) := hD
    rw [flF_10] at hP hD
    have hP : va_P D vwCl (MoW q k (nI 1) ck hd po th we bu tg se gr ba tn sn un ow fi sz so wr dn ur dl sl le) H := hP
    have hD : va_D A (MoW q k (nI 1) ck hd po th we bu tg se gr ba tn sn un ow fi sz so wr dn ur dl sl le) := hD
    refine lv_if_eq (tgt := 86) hx hb dX3_submit_81 (by decide) (fun c3 => False.elim (bI_0 c3 (by decide))) (fun c3 => ?_)
    refine lv_iconst (v := nI 0) hx hb dX3_submit_84 (by decide) ?_
    exact retI hc dX3_submit_85 hK hP hD hS (Or.inl ⟨fun h => bI_0 c1 (thB_isT.mpr h.1), rfl, rfl⟩) (Nat.le_of_ble_eq_true rfl) (Nat.le_of_ble_eq_true rfl)
  · obtain ⟨j, hj, rfl, hthj⟩ := thB_isT.mp (bI_1 c1)
    refine lv_iload_n hx hb dX3_submit_8 rfl (lv_at hl 3 rfl) ?_
    refine lv_i2l (v := u.toInt64) hx hb dX3_submit_9 rfl ?_
    refine lv_lconst (v := 0) hx hb dX3_submit_10 rfl ?_
    refine lv_ldc2 (v := (99999)) hx hb hown (hts (.constantLong RX3 95 (99999)) mwX3_submit_0) dX3_submit_11 ?_
    refine goSI hc (kX3_in l D k H.size u.toInt64 0 (99999)) (va_cwS 3 hts gX3_submit_X3_in rfl rfl rfl (by decide +kernel) ⟨(Nat.le_of_ble_eq_true rfl), (Nat.le_of_ble_eq_true rfl)⟩) hP hD hK hS hA rfl hl.1 rfl (Nat.le_of_ble_eq_true rfl) dX3_submit_14 (Nat.le_of_ble_eq_true rfl) (Nat.le_of_ble_eq_true rfl) (fun r9 B9 H locs hq hP hD hS => ?_)
    obtain ⟨hr9, -⟩ := hq
    subst hr9
    have hP : va_P D vwCl (MoW q k tr ck hd po th we bu tg se gr ba tn sn un ow fi sz so wr dn ur dl sl le) H := hP
    have hD : va_D A (MoW q k tr ck hd po th we bu tg se gr ba tn sn un ow fi sz so wr dn ur dl sl le) := hD
    refine lv_if_eq (tgt := 63) hx hb dX3_submit_17 (by decide) (fun c4 => ?_) (fun c4 => ?_)
    · refine lv_iconst (v := nI 0) hx hb dX3_submit_63 (by decide) ?_
      refine lv_istore (lv' := [(6, .int (nI 0)), (0, .ref (q 0)), (1, .int (nI j)), (2, .int w), (3, .int u), (4, .int v), (5, .int y)]) hx hb dX3_submit_64 hl (by decide) rfl (fun ls hl => ?_)
      refine lv_aload_n hx hb dX3_submit_66 rfl (lv_at hl 1 rfl) ?_
      refine lv_iload hx hb dX3_submit_67 (lv_at hl 0 rfl) ?_
      refine lv_if_ne (tgt := 76) hx hb dX3_submit_69 (by decide) (fun c5 => False.elim (c5 (by decide))) (fun c5 => ?_)
      refine lv_iconst (v := nI 1) hx hb dX3_submit_72 (by decide) ?_
      refine lv_goto (tgt := 77) hx hb dX3_submit_73 (by decide) ?_
      refine lv_iconst (v := nI 0) hx hb dX3_submit_77 (by decide) ?_
      refine goVI0 hc (kX3_fails l D k q H.size tr ck hd po th we bu tg se gr ba tn sn un ow fi sz so wr dn ur dl sl le (nI 1) (nI 0)) (cwV 2 hts gX3_submit_X3_fails rfl rfl rfl (by decide +kernel) ⟨(Nat.le_of_ble_eq_true rfl), (Nat.le_of_ble_eq_true rfl)⟩) hP hD hK hS hA (ci := 3) (q0 := 0) rfl rfl rfl hl.1 rfl (Nat.le_of_ble_eq_true rfl) dX3_submit_78 (Nat.le_of_ble_eq_true rfl) (Nat.le_of_ble_eq_true rfl) (fun r9 B9 H locs hq hP hD hS => ?_)
      obtain ⟨hr9, rfl⟩ := hq
      subst hr9
      have hP : va_P D vwCl (MoW q k (flF (nI 1) (nI 0)) ck hd po th we bu tg se gr ba tn sn un ow fi sz so wr dn ur dl sl le) H := hP
      have hD : va_D A (MoW q k (flF (nI 1) (nI 0)) ck hd po th we bu tg se gr ba tn sn un ow fi sz so wr dn ur dl sl le) := hD
      rw [flF_10] at hP hD
      have hP : va_P D vwCl (MoW q k (nI 1) ck hd po th we bu tg se gr ba tn sn un ow fi sz so wr dn ur dl sl le) H := hP
      have hD : va_D A (MoW q k (nI 1) ck hd po th we bu tg se gr ba tn sn un ow fi sz so wr dn ur dl sl le) := hD
      refine lv_if_eq (tgt := 86) hx hb dX3_submit_81 (by decide) (fun c6 => False.elim (bI_0 c6 (by decide))) (fun c6 => ?_)
      refine lv_iconst (v := nI 0) hx hb dX3_submit_84 (by decide) ?_
      exact retI hc dX3_submit_85 hK hP hD hS (Or.inl ⟨fun h => bI_0 c4 h.2.1, rfl, rfl⟩) (Nat.le_of_ble_eq_true rfl) (Nat.le_of_ble_eq_true rfl)
    · refine lv_iload hx hb dX3_submit_20 (lv_at hl 4 rfl) ?_
      refine lv_i2l (v := v.toInt64) hx hb dX3_submit_22 rfl ?_
      refine lv_lconst (v := 1) hx hb dX3_submit_23 rfl ?_
      refine lv_ldc2 (v := (64)) hx hb hown (hts (.constantLong RX3 97 (64)) mwX3_submit_1) dX3_submit_24 ?_
      refine goSI hc (kX3_in l D k H.size v.toInt64 1 (64)) (va_cwS 3 hts gX3_submit_X3_in rfl rfl rfl (by decide +kernel) ⟨(Nat.le_of_ble_eq_true rfl), (Nat.le_of_ble_eq_true rfl)⟩) hP hD hK hS hA rfl hl.1 rfl (Nat.le_of_ble_eq_true rfl) dX3_submit_27 (Nat.le_of_ble_eq_true rfl) (Nat.le_of_ble_eq_true rfl) (fun r9 B9 H locs hq hP hD hS => ?_)
      obtain ⟨hr9, -⟩ := hq
      subst hr9
      have hP : va_P D vwCl (MoW q k tr ck hd po th we bu tg se gr ba tn sn un ow fi sz so wr dn ur dl sl le) H := hP
      have hD : va_D A (MoW q k tr ck hd po th we bu tg se gr ba tn sn un ow fi sz so wr dn ur dl sl le) := hD
      refine lv_if_eq (tgt := 63) hx hb dX3_submit_30 (by decide) (fun c7 => ?_) (fun c7 => ?_)
      · refine lv_iconst (v := nI 0) hx hb dX3_submit_63 (by decide) ?_
        refine lv_istore (lv' := [(6, .int (nI 0)), (0, .ref (q 0)), (1, .int (nI j)), (2, .int w), (3, .int u), (4, .int v), (5, .int y)]) hx hb dX3_submit_64 hl (by decide) rfl (fun ls hl => ?_)
        refine lv_aload_n hx hb dX3_submit_66 rfl (lv_at hl 1 rfl) ?_
        refine lv_iload hx hb dX3_submit_67 (lv_at hl 0 rfl) ?_
        refine lv_if_ne (tgt := 76) hx hb dX3_submit_69 (by decide) (fun c8 => False.elim (c8 (by decide))) (fun c8 => ?_)
        refine lv_iconst (v := nI 1) hx hb dX3_submit_72 (by decide) ?_
        refine lv_goto (tgt := 77) hx hb dX3_submit_73 (by decide) ?_
        refine lv_iconst (v := nI 0) hx hb dX3_submit_77 (by decide) ?_
        refine goVI0 hc (kX3_fails l D k q H.size tr ck hd po th we bu tg se gr ba tn sn un ow fi sz so wr dn ur dl sl le (nI 1) (nI 0)) (cwV 2 hts gX3_submit_X3_fails rfl rfl rfl (by decide +kernel) ⟨(Nat.le_of_ble_eq_true rfl), (Nat.le_of_ble_eq_true rfl)⟩) hP hD hK hS hA (ci := 3) (q0 := 0) rfl rfl rfl hl.1 rfl (Nat.le_of_ble_eq_true rfl) dX3_submit_78 (Nat.le_of_ble_eq_true rfl) (Nat.le_of_ble_eq_true rfl) (fun r9 B9 H locs hq hP hD hS => ?_)
        obtain ⟨hr9, rfl⟩ := hq
        subst hr9
        have hP : va_P D vwCl (MoW q k (flF (nI 1) (nI 0)) ck hd po th we bu tg se gr ba tn sn un ow fi sz so wr dn ur dl sl le) H := hP
        have hD : va_D A (MoW q k (flF (nI 1) (nI 0)) ck hd po th we bu tg se gr ba tn sn un ow fi sz so wr dn ur dl sl le) := hD
        rw [flF_10] at hP hD
        have hP : va_P D vwCl (MoW q k (nI 1) ck hd po th we bu tg se gr ba tn sn un ow fi sz so wr dn ur dl sl le) H := hP
        have hD : va_D A (MoW q k (nI 1) ck hd po th we bu tg se gr ba tn sn un ow fi sz so wr dn ur dl sl le) := hD
        refine lv_if_eq (tgt := 86) hx hb dX3_submit_81 (by decide) (fun c9 => False.elim (bI_0 c9 (by decide))) (fun c9 => ?_)
        refine lv_iconst (v := nI 0) hx hb dX3_submit_84 (by decide) ?_
        exact retI hc dX3_submit_85 hK hP hD hS (Or.inl ⟨fun h => bI_0 c7 h.2.2.1, rfl, rfl⟩) (Nat.le_of_ble_eq_true rfl) (Nat.le_of_ble_eq_true rfl)
      · refine lv_iload_n hx hb dX3_submit_33 rfl (lv_at hl 3 rfl) ?_
        refine lv_i2l (v := u.toInt64) hx hb dX3_submit_34 rfl ?_
        refine lv_iload hx hb dX3_submit_35 (lv_at hl 4 rfl) ?_
        refine lv_i2l (v := v.toInt64) hx hb dX3_submit_37 rfl ?_
        refine lv_ladd hx hb dX3_submit_38 ?_
        refine lv_ldc2 (v := (100000)) hx hb hown (hts (.constantLong RX3 99 (100000)) mwX3_submit_2) dX3_submit_39 ?_
        refine W.lcmp hx hb dX3_submit_42 ?_
        refine lv_if_gt (tgt := 63) hx hb dX3_submit_43 (by decide) (fun c10 => ?_) (fun c10 => ?_)
        · rw [lg_cmp_gt] at c10
          refine lv_iconst (v := nI 0) hx hb dX3_submit_63 (by decide) ?_
          refine lv_istore (lv' := [(6, .int (nI 0)), (0, .ref (q 0)), (1, .int (nI j)), (2, .int w), (3, .int u), (4, .int v), (5, .int y)]) hx hb dX3_submit_64 hl (by decide) rfl (fun ls hl => ?_)
          refine lv_aload_n hx hb dX3_submit_66 rfl (lv_at hl 1 rfl) ?_
          refine lv_iload hx hb dX3_submit_67 (lv_at hl 0 rfl) ?_
          refine lv_if_ne (tgt := 76) hx hb dX3_submit_69 (by decide) (fun c11 => False.elim (c11 (by decide))) (fun c11 => ?_)
          refine lv_iconst (v := nI 1) hx hb dX3_submit_72 (by decide) ?_
          refine lv_goto (tgt := 77) hx hb dX3_submit_73 (by decide) ?_
          refine lv_iconst (v := nI 0) hx hb dX3_submit_77 (by decide) ?_
          refine goVI0 hc (kX3_fails l D k q H.size tr ck hd po th we bu tg se gr ba tn sn un ow fi sz so wr dn ur dl sl le (nI 1) (nI 0)) (cwV 2 hts gX3_submit_X3_fails rfl rfl rfl (by decide +kernel) ⟨(Nat.le_of_ble_eq_true rfl), (Nat.le_of_ble_eq_true rfl)⟩) hP hD hK hS hA (ci := 3) (q0 := 0) rfl rfl rfl hl.1 rfl (Nat.le_of_ble_eq_true rfl) dX3_submit_78 (Nat.le_of_ble_eq_true rfl) (Nat.le_of_ble_eq_true rfl) (fun r9 B9 H locs hq hP hD hS => ?_)
          obtain ⟨hr9, rfl⟩ := hq
          subst hr9
          have hP : va_P D vwCl (MoW q k (flF (nI 1) (nI 0)) ck hd po th we bu tg se gr ba tn sn un ow fi sz so wr dn ur dl sl le) H := hP
          have hD : va_D A (MoW q k (flF (nI 1) (nI 0)) ck hd po th we bu tg se gr ba tn sn un ow fi sz so wr dn ur dl sl le) := hD
          rw [flF_10] at hP hD
          have hP : va_P D vwCl (MoW q k (nI 1) ck hd po th we bu tg se gr ba tn sn un ow fi sz so wr dn ur dl sl le) H := hP
          have hD : va_D A (MoW q k (nI 1) ck hd po th we bu tg se gr ba tn sn un ow fi sz so wr dn ur dl sl le) := hD
          refine lv_if_eq (tgt := 86) hx hb dX3_submit_81 (by decide) (fun c12 => False.elim (bI_0 c12 (by decide))) (fun c12 => ?_)
          refine lv_iconst (v := nI 0) hx hb dX3_submit_84 (by decide) ?_
          exact retI hc dX3_submit_85 hK hP hD hS (Or.inl ⟨fun h => h.2.2.2.1 c10, rfl, rfl⟩) (Nat.le_of_ble_eq_true rfl) (Nat.le_of_ble_eq_true rfl)
        · rw [lg_cmp_gt] at c10
          refine lv_iload hx hb dX3_submit_46 (lv_at hl 5 rfl) ?_
          refine lv_i2l (v := y.toInt64) hx hb dX3_submit_48 rfl ?_
          refine lv_lconst (v := 0) hx hb dX3_submit_49 rfl ?_
          refine lv_ldc2 (v := (1000000)) hx hb hown (hts (.constantLong RX3 101 (1000000)) mwX3_submit_3) dX3_submit_50 ?_
          refine goSI hc (kX3_in l D k H.size y.toInt64 0 (1000000)) (va_cwS 3 hts gX3_submit_X3_in rfl rfl rfl (by decide +kernel) ⟨(Nat.le_of_ble_eq_true rfl), (Nat.le_of_ble_eq_true rfl)⟩) hP hD hK hS hA rfl hl.1 rfl (Nat.le_of_ble_eq_true rfl) dX3_submit_53 (Nat.le_of_ble_eq_true rfl) (Nat.le_of_ble_eq_true rfl) (fun r9 B9 H locs hq hP hD hS => ?_)
          obtain ⟨hr9, -⟩ := hq
          subst hr9
          have hP : va_P D vwCl (MoW q k tr ck hd po th we bu tg se gr ba tn sn un ow fi sz so wr dn ur dl sl le) H := hP
          have hD : va_D A (MoW q k tr ck hd po th we bu tg se gr ba tn sn un ow fi sz so wr dn ur dl sl le) := hD
          refine lv_if_eq (tgt := 63) hx hb dX3_submit_56 (by decide) (fun c13 => ?_) (fun c13 => ?_)
          · refine lv_iconst (v := nI 0) hx hb dX3_submit_63 (by decide) ?_
            refine lv_istore (lv' := [(6, .int (nI 0)), (0, .ref (q 0)), (1, .int (nI j)), (2, .int w), (3, .int u), (4, .int v), (5, .int y)]) hx hb dX3_submit_64 hl (by decide) rfl (fun ls hl => ?_)
            refine lv_aload_n hx hb dX3_submit_66 rfl (lv_at hl 1 rfl) ?_
            refine lv_iload hx hb dX3_submit_67 (lv_at hl 0 rfl) ?_
            refine lv_if_ne (tgt := 76) hx hb dX3_submit_69 (by decide) (fun c14 => False.elim (c14 (by decide))) (fun c14 => ?_)
            refine lv_iconst (v := nI 1) hx hb dX3_submit_72 (by decide) ?_
            refine lv_goto (tgt := 77) hx hb dX3_submit_73 (by decide) ?_
            refine lv_iconst (v := nI 0) hx hb dX3_submit_77 (by decide) ?_
            refine goVI0 hc (kX3_fails l D k q H.size tr ck hd po th we bu tg se gr ba tn sn un ow fi sz so wr dn ur dl sl le (nI 1) (nI 0)) (cwV 2 hts gX3_submit_X3_fails rfl rfl rfl (by decide +kernel) ⟨(Nat.le_of_ble_eq_true rfl), (Nat.le_of_ble_eq_true rfl)⟩) hP hD hK hS hA (ci := 3) (q0 := 0) rfl rfl rfl hl.1 rfl (Nat.le_of_ble_eq_true rfl) dX3_submit_78 (Nat.le_of_ble_eq_true rfl) (Nat.le_of_ble_eq_true rfl) (fun r9 B9 H locs hq hP hD hS => ?_)
            obtain ⟨hr9, rfl⟩ := hq
            subst hr9
            have hP : va_P D vwCl (MoW q k (flF (nI 1) (nI 0)) ck hd po th we bu tg se gr ba tn sn un ow fi sz so wr dn ur dl sl le) H := hP
            have hD : va_D A (MoW q k (flF (nI 1) (nI 0)) ck hd po th we bu tg se gr ba tn sn un ow fi sz so wr dn ur dl sl le) := hD
            rw [flF_10] at hP hD
            have hP : va_P D vwCl (MoW q k (nI 1) ck hd po th we bu tg se gr ba tn sn un ow fi sz so wr dn ur dl sl le) H := hP
            have hD : va_D A (MoW q k (nI 1) ck hd po th we bu tg se gr ba tn sn un ow fi sz so wr dn ur dl sl le) := hD
            refine lv_if_eq (tgt := 86) hx hb dX3_submit_81 (by decide) (fun c15 => False.elim (bI_0 c15 (by decide))) (fun c15 => ?_)
            refine lv_iconst (v := nI 0) hx hb dX3_submit_84 (by decide) ?_
            exact retI hc dX3_submit_85 hK hP hD hS (Or.inl ⟨fun h => bI_0 c13 h.2.2.2.2, rfl, rfl⟩) (Nat.le_of_ble_eq_true rfl) (Nat.le_of_ble_eq_true rfl)
          · refine lv_iconst (v := nI 1) hx hb dX3_submit_59 (by decide) ?_
            refine lv_goto (tgt := 64) hx hb dX3_submit_60 (by decide) ?_
            refine lv_istore (lv' := [(6, .int (nI 1)), (0, .ref (q 0)), (1, .int (nI j)), (2, .int w), (3, .int u), (4, .int v), (5, .int y)]) hx hb dX3_submit_64 hl (by decide) rfl (fun ls hl => ?_)
            refine lv_aload_n hx hb dX3_submit_66 rfl (lv_at hl 1 rfl) ?_
            refine lv_iload hx hb dX3_submit_67 (lv_at hl 0 rfl) ?_
            refine lv_if_ne (tgt := 76) hx hb dX3_submit_69 (by decide) (fun c16 => ?_) (fun c16 => False.elim (absurd c16 (by decide)))
            refine lv_iconst (v := nI 0) hx hb dX3_submit_76 (by decide) ?_
            refine lv_iconst (v := nI 0) hx hb dX3_submit_77 (by decide) ?_
            refine goVI0 hc (kX3_fails l D k q H.size tr ck hd po th we bu tg se gr ba tn sn un ow fi sz so wr dn ur dl sl le (nI 0) (nI 0)) (cwV 2 hts gX3_submit_X3_fails rfl rfl rfl (by decide +kernel) ⟨(Nat.le_of_ble_eq_true rfl), (Nat.le_of_ble_eq_true rfl)⟩) hP hD hK hS hA (ci := 3) (q0 := 0) rfl rfl rfl hl.1 rfl (Nat.le_of_ble_eq_true rfl) dX3_submit_78 (Nat.le_of_ble_eq_true rfl) (Nat.le_of_ble_eq_true rfl) (fun r9 B9 H locs hq hP hD hS => ?_)
            obtain ⟨hr9, rfl⟩ := hq
            subst hr9
            have hP : va_P D vwCl (MoW q k (flF (nI 0) (nI 0)) ck hd po th we bu tg se gr ba tn sn un ow fi sz so wr dn ur dl sl le) H := hP
            have hD : va_D A (MoW q k (flF (nI 0) (nI 0)) ck hd po th we bu tg se gr ba tn sn un ow fi sz so wr dn ur dl sl le) := hD
            rw [flF_00] at hP hD
            have hP : va_P D vwCl (MoW q k (nI 0) ck hd po th we bu tg se gr ba tn sn un ow fi sz so wr dn ur dl sl le) H := hP
            have hD : va_D A (MoW q k (nI 0) ck hd po th we bu tg se gr ba tn sn un ow fi sz so wr dn ur dl sl le) := hD
            refine lv_if_eq (tgt := 86) hx hb dX3_submit_81 (by decide) (fun c17 => ?_) (fun c17 => False.elim (bI_1 c17 ⟨by decide, by decide⟩))
            refine lv_aload_n hx hb dX3_submit_86 rfl (lv_at hl 1 rfl) ?_
            refine lv_iload_n hx hb dX3_submit_87 rfl (lv_at hl 2 rfl) ?_
            refine goVI0 hc (kX3_waiting l D k q H.size (nI 0) ck hd po th we bu tg se gr ba tn sn un ow fi sz so wr dn ur dl sl le (nI j) (htn)) (cwV 1 hts gX3_submit_X3_waiting rfl rfl rfl (by decide +kernel) ⟨(Nat.le_of_ble_eq_true rfl), (Nat.le_of_ble_eq_true rfl)⟩) hP hD hK hS hA (ci := 3) (q0 := 0) rfl rfl rfl hl.1 rfl (Nat.le_of_ble_eq_true rfl) dX3_submit_88 (Nat.le_of_ble_eq_true rfl) (Nat.le_of_ble_eq_true rfl) (fun r9 B9 H locs hq hP hD hS => ?_)
            obtain ⟨hr9, rfl⟩ := hq
            subst hr9
            have hP : va_P D vwCl (MoW q k (nI 0) ck hd po th we bu tg se gr ba tn sn un ow fi sz so wr dn ur dl sl le) H := hP
            have hD : va_D A (MoW q k (nI 0) ck hd po th we bu tg se gr ba tn sn un ow fi sz so wr dn ur dl sl le) := hD
            refine lv_istore (lv' := [(7, .int (nI (wcN dn ow (nI j) tn))), (6, .int (nI 1)), (0, .ref (q 0)), (1, .int (nI j)), (2, .int w), (3, .int u), (4, .int v), (5, .int y)]) hx hb dX3_submit_91 hl (by decide) rfl (fun ls hl => ?_)
            refine lv_iload hx hb dX3_submit_93 (lv_at hl 0 rfl) ?_
            refine lv_bipush (v := nI 64) hx hb dX3_submit_95 (by decide) ?_
            refine lv_icmp_eq (tgt := 110) hx hb dX3_submit_97 (by decide) (fun c18 => ?_) (fun c18 => ?_)
            · refine lv_iconst (v := (-1)) hx hb dX3_submit_110 (by decide) ?_
              exact retI hc dX3_submit_111 hK hP hD hS (Or.inr ⟨j, hj, rfl, hthj, ⟨bI_1 c4, bI_1 c7, c10, bI_1 c13⟩, Or.inl ⟨Or.inl c18, rfl, rfl⟩⟩) (Nat.le_of_ble_eq_true rfl) (Nat.le_of_ble_eq_true rfl)
            · refine lv_aload_n hx hb dX3_submit_100 rfl (lv_at hl 2 rfl) ?_
              refine va_get (D := D) (ci := 3) (v := .int (nI tn)) (C := RX3) (T := TX3) (N := 24) hx hb hts iwX3_submit_X3 hown hK hP 0 rfl rfl 11 (by decide) (hts (Cond.fieldLink RX3 70 "ShareDiskModel" "tickets" "I") mwX3_submit_4) (fun _ h9 => h9) rfl dX3_submit_101 ?_
              refine lv_sipush (v := nI 500) hx hb dX3_submit_104 (by decide) ?_
              refine lv_icmp_ne (tgt := 112) hx hb dX3_submit_107 (by decide) (fun c19 => ?_) (fun c19 => ?_)
              · have hne5 : ¬ tn = 500 := fun h => c19 (by rw [h])
                refine lv_iload hx hb dX3_submit_112 (lv_at hl 0 rfl) ?_
                refine lv_if_ne (tgt := 122) hx hb dX3_submit_114 (by decide) (fun c20 => ?_) (fun c20 => ?_)
                · refine lv_aload_n hx hb dX3_submit_122 rfl (lv_at hl 2 rfl) ?_
                  refine va_get (D := D) (ci := 3) (v := .int (nI tn)) (C := RX3) (T := TX3) (N := 24) hx hb hts iwX3_submit_X3 hown hK hP 0 rfl rfl 11 (by decide) (hts (Cond.fieldLink RX3 70 "ShareDiskModel" "tickets" "I") mwX3_submit_4) (fun _ h9 => h9) rfl dX3_submit_123 ?_
                  refine lv_istore (lv' := [(8, .int (nI tn)), (7, .int (nI (wcN dn ow (nI j) tn))), (6, .int (nI 1)), (0, .ref (q 0)), (1, .int (nI j)), (2, .int w), (3, .int u), (4, .int v), (5, .int y)]) hx hb dX3_submit_126 hl (by decide) rfl (fun ls hl => ?_)
                  refine lv_aload_n hx hb dX3_submit_128 rfl (lv_at hl 3 rfl) ?_
                  refine lv_dup hx hb dX3_submit_129 rfl ?_
                  refine va_get (D := D) (ci := 3) (v := .int (nI tn)) (C := RX3) (T := TX3) (N := 24) hx hb hts iwX3_submit_X3 hown hK hP 0 rfl rfl 11 (by decide) (hts (Cond.fieldLink RX3 70 "ShareDiskModel" "tickets" "I") mwX3_submit_4) (fun _ h9 => h9) rfl dX3_submit_130 ?_
                  refine lv_iconst (v := nI 1) hx hb dX3_submit_133 (by decide) ?_
                  refine nadd hx hb dX3_submit_134 ?_
                  refine va_put (D := D) (ci := 3) (v := .int (nI (tn + 1))) (ty := .int) (C := RX3) (T := TX3) (N := 24) hx hb hts iwX3_submit_X3 tyX3 tyX3_ok nmX3 hown hK hP hD hS 0 rfl rfl 11 (by decide) (hts (Cond.fieldLink RX3 70 "ShareDiskModel" "tickets" "I") mwX3_submit_4) (fun _ h9 => h9) rfl (by decide +kernel) rfl rfl (Nat.le_of_ble_eq_true rfl) dX3_submit_135 (fun H locs hP hD hS => ?_)
                  have hP : va_P D vwCl (MoW q k (nI 0) ck hd po th we bu tg se gr ba (tn + 1) sn un ow fi sz so wr dn ur dl sl le) H := hP
                  have hD : va_D A (MoW q k (nI 0) ck hd po th we bu tg se gr ba (tn + 1) sn un ow fi sz so wr dn ur dl sl le) := hD
                  refine lv_aload_n hx hb dX3_submit_138 rfl (lv_at hl 3 rfl) ?_
                  refine va_get (D := D) (ci := 3) (v := .ref (q 8)) (C := RX3) (T := TX3) (N := 24) hx hb hts iwX3_submit_X3 hown hK hP 0 rfl rfl 14 (by decide) (hts (Cond.fieldLink RX3 33 "ShareDiskModel" "clientOf" "[I") mwX3_submit_5) (fun _ h9 => h9) rfl dX3_submit_139 ?_
                  refine lv_iload hx hb dX3_submit_142 (lv_at hl 0 rfl) ?_
                  refine lv_iload_n hx hb dX3_submit_144 rfl (lv_at hl 4 rfl) ?_
                  refine sI hx hb hK hP hD hS 8 1 rfl rfl (ix5 (by have h9 := hne5; omega)) dX3_submit_145 (fun H locs hP hD hS => ?_)
                  have hP : va_P D vwCl (MoW q k (nI 0) ck hd po th we bu tg se gr ba (tn + 1) sn un (upd ow tn (nI j)) fi sz so wr dn ur dl sl le) H := hP
                  have hD : va_D A (MoW q k (nI 0) ck hd po th we bu tg se gr ba (tn + 1) sn un (upd ow tn (nI j)) fi sz so wr dn ur dl sl le) := hD
                  refine lv_aload_n hx hb dX3_submit_146 rfl (lv_at hl 3 rfl) ?_
                  refine va_get (D := D) (ci := 3) (v := .ref (q 9)) (C := RX3) (T := TX3) (N := 24) hx hb hts iwX3_submit_X3 hown hK hP 0 rfl rfl 15 (by decide) (hts (Cond.fieldLink RX3 36 "ShareDiskModel" "first" "[I") mwX3_submit_6) (fun _ h9 => h9) rfl dX3_submit_147 ?_
                  refine lv_iload hx hb dX3_submit_150 (lv_at hl 0 rfl) ?_
                  refine lv_iload_n hx hb dX3_submit_152 rfl (lv_at hl 6 rfl) ?_
                  refine sI hx hb hK hP hD hS 9 1 rfl rfl (ix5 (by have h9 := hne5; omega)) dX3_submit_153 (fun H locs hP hD hS => ?_)
                  have hP : va_P D vwCl (MoW q k (nI 0) ck hd po th we bu tg se gr ba (tn + 1) sn un (upd ow tn (nI j)) (upd fi tn u) sz so wr dn ur dl sl le) H := hP
                  have hD : va_D A (MoW q k (nI 0) ck hd po th we bu tg se gr ba (tn + 1) sn un (upd ow tn (nI j)) (upd fi tn u) sz so wr dn ur dl sl le) := hD
                  refine lv_aload_n hx hb dX3_submit_154 rfl (lv_at hl 3 rfl) ?_
                  refine va_get (D := D) (ci := 3) (v := .ref (q 10)) (C := RX3) (T := TX3) (N := 24) hx hb hts iwX3_submit_X3 hown hK hP 0 rfl rfl 16 (by decide) (hts (Cond.fieldLink RX3 39 "ShareDiskModel" "counts" "[I") mwX3_submit_7) (fun _ h9 => h9) rfl dX3_submit_155 ?_
                  refine lv_iload hx hb dX3_submit_158 (lv_at hl 0 rfl) ?_
                  refine lv_iload hx hb dX3_submit_160 (lv_at hl 7 rfl) ?_
                  refine sI hx hb hK hP hD hS 10 1 rfl rfl (ix5 (by have h9 := hne5; omega)) dX3_submit_162 (fun H locs hP hD hS => ?_)
                  have hP : va_P D vwCl (MoW q k (nI 0) ck hd po th we bu tg se gr ba (tn + 1) sn un (upd ow tn (nI j)) (upd fi tn u) (upd sz tn v) so wr dn ur dl sl le) H := hP
                  have hD : va_D A (MoW q k (nI 0) ck hd po th we bu tg se gr ba (tn + 1) sn un (upd ow tn (nI j)) (upd fi tn u) (upd sz tn v) so wr dn ur dl sl le) := hD
                  refine lv_aload_n hx hb dX3_submit_163 rfl (lv_at hl 3 rfl) ?_
                  refine va_get (D := D) (ci := 3) (v := .ref (q 12)) (C := RX3) (T := TX3) (N := 24) hx hb hts iwX3_submit_X3 hown hK hP 0 rfl rfl 18 (by decide) (hts (Cond.fieldLink RX3 45 "ShareDiskModel" "writes" "[Z") mwX3_submit_8) (fun _ h9 => h9) rfl dX3_submit_164 ?_
                  refine lv_iload hx hb dX3_submit_167 (lv_at hl 0 rfl) ?_
                  refine lv_iload_n hx hb dX3_submit_169 rfl (lv_at hl 5 rfl) ?_
                  refine sZ hx hb hK hP hD hS 12 0 rfl rfl (ix5 (by have h9 := hne5; omega)) hw dX3_submit_170 (fun H locs hP hD hS => ?_)
                  have hP : va_P D vwCl (MoW q k (nI 0) ck hd po th we bu tg se gr ba (tn + 1) sn un (upd ow tn (nI j)) (upd fi tn u) (upd sz tn v) so (upd wr tn w) dn ur dl sl le) H := hP
                  have hD : va_D A (MoW q k (nI 0) ck hd po th we bu tg se gr ba (tn + 1) sn un (upd ow tn (nI j)) (upd fi tn u) (upd sz tn v) so (upd wr tn w) dn ur dl sl le) := hD
                  refine lv_aload_n hx hb dX3_submit_171 rfl (lv_at hl 3 rfl) ?_
                  refine va_get (D := D) (ci := 3) (v := .ref (q 15)) (C := RX3) (T := TX3) (N := 24) hx hb hts iwX3_submit_X3 hown hK hP 0 rfl rfl 21 (by decide) (hts (Cond.fieldLink RX3 54 "ShareDiskModel" "deadlines" "[J") mwX3_submit_9) (fun _ h9 => h9) rfl dX3_submit_172 ?_
                  refine lv_iload hx hb dX3_submit_175 (lv_at hl 0 rfl) ?_
                  refine lv_aload_n hx hb dX3_submit_177 rfl (lv_at hl 3 rfl) ?_
                  refine va_get (D := D) (ci := 3) (v := .long ck) (C := RX3) (T := TX3) (N := 24) hx hb hts iwX3_submit_X3 hown hK hP 0 rfl rfl 1 (by decide) (hts (Cond.fieldLink RX3 107 "ShareDiskModel" "clock" "J") mwX3_submit_10) (fun _ h9 => h9) rfl dX3_submit_178 ?_
                  refine lv_iload hx hb dX3_submit_181 (lv_at hl 8 rfl) ?_
                  refine lv_i2l (v := y.toInt64) hx hb dX3_submit_183 rfl ?_
                  refine lv_ladd hx hb dX3_submit_184 ?_
                  refine sJ hx hb hK hP hD hS 15 2 rfl rfl (ix5 (by have h9 := hne5; omega)) dX3_submit_185 (fun H locs hP hD hS => ?_)
                  have hP : va_P D vwCl (MoW q k (nI 0) ck hd po th we bu tg se gr ba (tn + 1) sn un (upd ow tn (nI j)) (upd fi tn u) (upd sz tn v) so (upd wr tn w) dn ur (vp_updL dl tn (ck + y.toInt64)) sl le) H := hP
                  have hD : va_D A (MoW q k (nI 0) ck hd po th we bu tg se gr ba (tn + 1) sn un (upd ow tn (nI j)) (upd fi tn u) (upd sz tn v) so (upd wr tn w) dn ur (vp_updL dl tn (ck + y.toInt64)) sl le) := hD
                  refine lv_iload hx hb dX3_submit_186 (lv_at hl 0 rfl) ?_
                  exact retI hc dX3_submit_188 hK hP hD hS (Or.inr ⟨j, hj, rfl, hthj, ⟨bI_1 c4, bI_1 c7, c10, bI_1 c13⟩, Or.inr ⟨c18, c19, rfl, by rw [if_neg c20, if_neg c20]⟩⟩) (Nat.le_of_ble_eq_true rfl) (Nat.le_of_ble_eq_true rfl)
                · refine lv_aload_n hx hb dX3_submit_117 rfl (lv_at hl 2 rfl) ?_
                  refine lv_iload_n hx hb dX3_submit_118 rfl (lv_at hl 3 rfl) ?_
                  refine goVV0 hc (kX3_begin l D k q H.size (nI 0) ck hd po th we bu tg se gr ba tn sn un ow fi sz so wr dn ur dl sl le j (hj)) (cwV 1 hts gX3_submit_X3_begin rfl rfl rfl (by decide +kernel) ⟨(Nat.le_of_ble_eq_true rfl), (Nat.le_of_ble_eq_true rfl)⟩) hP hD hK hS hA (ci := 3) (q0 := 0) rfl rfl rfl hl.1 rfl (Nat.le_of_ble_eq_true rfl) dX3_submit_119 (Nat.le_of_ble_eq_true rfl) (Nat.le_of_ble_eq_true rfl) (fun B9 H locs hq hP hD hS => ?_)
                  subst hq
                  have hP : va_P D vwCl (MoW q k (nI 0) ck hd po th we bu (vp_updL tg j (if tg j ≤ tg 8 then tg 8 else tg j)) se gr (beB ba gr j 8) tn sn un ow fi sz so wr dn ur dl sl le) H := hP
                  have hD : va_D A (MoW q k (nI 0) ck hd po th we bu (vp_updL tg j (if tg j ≤ tg 8 then tg 8 else tg j)) se gr (beB ba gr j 8) tn sn un ow fi sz so wr dn ur dl sl le) := hD
                  refine lv_aload_n hx hb dX3_submit_122 rfl (lv_at hl 2 rfl) ?_
                  refine va_get (D := D) (ci := 3) (v := .int (nI tn)) (C := RX3) (T := TX3) (N := 24) hx hb hts iwX3_submit_X3 hown hK hP 0 rfl rfl 11 (by decide) (hts (Cond.fieldLink RX3 70 "ShareDiskModel" "tickets" "I") mwX3_submit_4) (fun _ h9 => h9) rfl dX3_submit_123 ?_
                  refine lv_istore (lv' := [(8, .int (nI tn)), (7, .int (nI (wcN dn ow (nI j) tn))), (6, .int (nI 1)), (0, .ref (q 0)), (1, .int (nI j)), (2, .int w), (3, .int u), (4, .int v), (5, .int y)]) hx hb dX3_submit_126 hl (by decide) rfl (fun ls hl => ?_)
                  refine lv_aload_n hx hb dX3_submit_128 rfl (lv_at hl 3 rfl) ?_
                  refine lv_dup hx hb dX3_submit_129 rfl ?_
                  refine va_get (D := D) (ci := 3) (v := .int (nI tn)) (C := RX3) (T := TX3) (N := 24) hx hb hts iwX3_submit_X3 hown hK hP 0 rfl rfl 11 (by decide) (hts (Cond.fieldLink RX3 70 "ShareDiskModel" "tickets" "I") mwX3_submit_4) (fun _ h9 => h9) rfl dX3_submit_130 ?_
                  refine lv_iconst (v := nI 1) hx hb dX3_submit_133 (by decide) ?_
                  refine nadd hx hb dX3_submit_134 ?_
                  refine va_put (D := D) (ci := 3) (v := .int (nI (tn + 1))) (ty := .int) (C := RX3) (T := TX3) (N := 24) hx hb hts iwX3_submit_X3 tyX3 tyX3_ok nmX3 hown hK hP hD hS 0 rfl rfl 11 (by decide) (hts (Cond.fieldLink RX3 70 "ShareDiskModel" "tickets" "I") mwX3_submit_4) (fun _ h9 => h9) rfl (by decide +kernel) rfl rfl (Nat.le_of_ble_eq_true rfl) dX3_submit_135 (fun H locs hP hD hS => ?_)
                  have hP : va_P D vwCl (MoW q k (nI 0) ck hd po th we bu (vp_updL tg j (if tg j ≤ tg 8 then tg 8 else tg j)) se gr (beB ba gr j 8) (tn + 1) sn un ow fi sz so wr dn ur dl sl le) H := hP
                  have hD : va_D A (MoW q k (nI 0) ck hd po th we bu (vp_updL tg j (if tg j ≤ tg 8 then tg 8 else tg j)) se gr (beB ba gr j 8) (tn + 1) sn un ow fi sz so wr dn ur dl sl le) := hD
                  refine lv_aload_n hx hb dX3_submit_138 rfl (lv_at hl 3 rfl) ?_
                  refine va_get (D := D) (ci := 3) (v := .ref (q 8)) (C := RX3) (T := TX3) (N := 24) hx hb hts iwX3_submit_X3 hown hK hP 0 rfl rfl 14 (by decide) (hts (Cond.fieldLink RX3 33 "ShareDiskModel" "clientOf" "[I") mwX3_submit_5) (fun _ h9 => h9) rfl dX3_submit_139 ?_
                  refine lv_iload hx hb dX3_submit_142 (lv_at hl 0 rfl) ?_
                  refine lv_iload_n hx hb dX3_submit_144 rfl (lv_at hl 4 rfl) ?_
                  refine sI hx hb hK hP hD hS 8 1 rfl rfl (ix5 (by have h9 := hne5; omega)) dX3_submit_145 (fun H locs hP hD hS => ?_)
                  have hP : va_P D vwCl (MoW q k (nI 0) ck hd po th we bu (vp_updL tg j (if tg j ≤ tg 8 then tg 8 else tg j)) se gr (beB ba gr j 8) (tn + 1) sn un (upd ow tn (nI j)) fi sz so wr dn ur dl sl le) H := hP
                  have hD : va_D A (MoW q k (nI 0) ck hd po th we bu (vp_updL tg j (if tg j ≤ tg 8 then tg 8 else tg j)) se gr (beB ba gr j 8) (tn + 1) sn un (upd ow tn (nI j)) fi sz so wr dn ur dl sl le) := hD
                  refine lv_aload_n hx hb dX3_submit_146 rfl (lv_at hl 3 rfl) ?_
                  refine va_get (D := D) (ci := 3) (v := .ref (q 9)) (C := RX3) (T := TX3) (N := 24) hx hb hts iwX3_submit_X3 hown hK hP 0 rfl rfl 15 (by decide) (hts (Cond.fieldLink RX3 36 "ShareDiskModel" "first" "[I") mwX3_submit_6) (fun _ h9 => h9) rfl dX3_submit_147 ?_
                  refine lv_iload hx hb dX3_submit_150 (lv_at hl 0 rfl) ?_
                  refine lv_iload_n hx hb dX3_submit_152 rfl (lv_at hl 6 rfl) ?_
                  refine sI hx hb hK hP hD hS 9 1 rfl rfl (ix5 (by have h9 := hne5; omega)) dX3_submit_153 (fun H locs hP hD hS => ?_)
                  have hP : va_P D vwCl (MoW q k (nI 0) ck hd po th we bu (vp_updL tg j (if tg j ≤ tg 8 then tg 8 else tg j)) se gr (beB ba gr j 8) (tn + 1) sn un (upd ow tn (nI j)) (upd fi tn u) sz so wr dn ur dl sl le) H := hP
                  have hD : va_D A (MoW q k (nI 0) ck hd po th we bu (vp_updL tg j (if tg j ≤ tg 8 then tg 8 else tg j)) se gr (beB ba gr j 8) (tn + 1) sn un (upd ow tn (nI j)) (upd fi tn u) sz so wr dn ur dl sl le) := hD
                  refine lv_aload_n hx hb dX3_submit_154 rfl (lv_at hl 3 rfl) ?_
                  refine va_get (D := D) (ci := 3) (v := .ref (q 10)) (C := RX3) (T := TX3) (N := 24) hx hb hts iwX3_submit_X3 hown hK hP 0 rfl rfl 16 (by decide) (hts (Cond.fieldLink RX3 39 "ShareDiskModel" "counts" "[I") mwX3_submit_7) (fun _ h9 => h9) rfl dX3_submit_155 ?_
                  refine lv_iload hx hb dX3_submit_158 (lv_at hl 0 rfl) ?_
                  refine lv_iload hx hb dX3_submit_160 (lv_at hl 7 rfl) ?_
                  refine sI hx hb hK hP hD hS 10 1 rfl rfl (ix5 (by have h9 := hne5; omega)) dX3_submit_162 (fun H locs hP hD hS => ?_)
                  have hP : va_P D vwCl (MoW q k (nI 0) ck hd po th we bu (vp_updL tg j (if tg j ≤ tg 8 then tg 8 else tg j)) se gr (beB ba gr j 8) (tn + 1) sn un (upd ow tn (nI j)) (upd fi tn u) (upd sz tn v) so wr dn ur dl sl le) H := hP
                  have hD : va_D A (MoW q k (nI 0) ck hd po th we bu (vp_updL tg j (if tg j ≤ tg 8 then tg 8 else tg j)) se gr (beB ba gr j 8) (tn + 1) sn un (upd ow tn (nI j)) (upd fi tn u) (upd sz tn v) so wr dn ur dl sl le) := hD
                  refine lv_aload_n hx hb dX3_submit_163 rfl (lv_at hl 3 rfl) ?_
                  refine va_get (D := D) (ci := 3) (v := .ref (q 12)) (C := RX3) (T := TX3) (N := 24) hx hb hts iwX3_submit_X3 hown hK hP 0 rfl rfl 18 (by decide) (hts (Cond.fieldLink RX3 45 "ShareDiskModel" "writes" "[Z") mwX3_submit_8) (fun _ h9 => h9) rfl dX3_submit_164 ?_
                  refine lv_iload hx hb dX3_submit_167 (lv_at hl 0 rfl) ?_
                  refine lv_iload_n hx hb dX3_submit_169 rfl (lv_at hl 5 rfl) ?_
                  refine sZ hx hb hK hP hD hS 12 0 rfl rfl (ix5 (by have h9 := hne5; omega)) hw dX3_submit_170 (fun H locs hP hD hS => ?_)
                  have hP : va_P D vwCl (MoW q k (nI 0) ck hd po th we bu (vp_updL tg j (if tg j ≤ tg 8 then tg 8 else tg j)) se gr (beB ba gr j 8) (tn + 1) sn un (upd ow tn (nI j)) (upd fi tn u) (upd sz tn v) so (upd wr tn w) dn ur dl sl le) H := hP
                  have hD : va_D A (MoW q k (nI 0) ck hd po th we bu (vp_updL tg j (if tg j ≤ tg 8 then tg 8 else tg j)) se gr (beB ba gr j 8) (tn + 1) sn un (upd ow tn (nI j)) (upd fi tn u) (upd sz tn v) so (upd wr tn w) dn ur dl sl le) := hD
                  refine lv_aload_n hx hb dX3_submit_171 rfl (lv_at hl 3 rfl) ?_
                  refine va_get (D := D) (ci := 3) (v := .ref (q 15)) (C := RX3) (T := TX3) (N := 24) hx hb hts iwX3_submit_X3 hown hK hP 0 rfl rfl 21 (by decide) (hts (Cond.fieldLink RX3 54 "ShareDiskModel" "deadlines" "[J") mwX3_submit_9) (fun _ h9 => h9) rfl dX3_submit_172 ?_
                  refine lv_iload hx hb dX3_submit_175 (lv_at hl 0 rfl) ?_
                  refine lv_aload_n hx hb dX3_submit_177 rfl (lv_at hl 3 rfl) ?_
                  refine va_get (D := D) (ci := 3) (v := .long ck) (C := RX3) (T := TX3) (N := 24) hx hb hts iwX3_submit_X3 hown hK hP 0 rfl rfl 1 (by decide) (hts (Cond.fieldLink RX3 107 "ShareDiskModel" "clock" "J") mwX3_submit_10) (fun _ h9 => h9) rfl dX3_submit_178 ?_
                  refine lv_iload hx hb dX3_submit_181 (lv_at hl 8 rfl) ?_
                  refine lv_i2l (v := y.toInt64) hx hb dX3_submit_183 rfl ?_
                  refine lv_ladd hx hb dX3_submit_184 ?_
                  refine sJ hx hb hK hP hD hS 15 2 rfl rfl (ix5 (by have h9 := hne5; omega)) dX3_submit_185 (fun H locs hP hD hS => ?_)
                  have hP : va_P D vwCl (MoW q k (nI 0) ck hd po th we bu (vp_updL tg j (if tg j ≤ tg 8 then tg 8 else tg j)) se gr (beB ba gr j 8) (tn + 1) sn un (upd ow tn (nI j)) (upd fi tn u) (upd sz tn v) so (upd wr tn w) dn ur (vp_updL dl tn (ck + y.toInt64)) sl le) H := hP
                  have hD : va_D A (MoW q k (nI 0) ck hd po th we bu (vp_updL tg j (if tg j ≤ tg 8 then tg 8 else tg j)) se gr (beB ba gr j 8) (tn + 1) sn un (upd ow tn (nI j)) (upd fi tn u) (upd sz tn v) so (upd wr tn w) dn ur (vp_updL dl tn (ck + y.toInt64)) sl le) := hD
                  refine lv_iload hx hb dX3_submit_186 (lv_at hl 0 rfl) ?_
                  exact retI hc dX3_submit_188 hK hP hD hS (Or.inr ⟨j, hj, rfl, hthj, ⟨bI_1 c4, bI_1 c7, c10, bI_1 c13⟩, Or.inr ⟨c18, c19, rfl, by rw [if_pos c20, if_pos c20]⟩⟩) (Nat.le_of_ble_eq_true rfl) (Nat.le_of_ble_eq_true rfl)
              · refine lv_iconst (v := (-1)) hx hb dX3_submit_110 (by decide) ?_
                exact retI hc dX3_submit_111 hK hP hD hS (Or.inr ⟨j, hj, rfl, hthj, ⟨bI_1 c4, bI_1 c7, c10, bI_1 c13⟩, Or.inl ⟨Or.inr c19, rfl, rfl⟩⟩) (Nat.le_of_ble_eq_true rfl) (Nat.le_of_ble_eq_true rfl)
theorem mwX3_pass_0 : Cond.constantLong RX3 101 (1000000) ∈ wsX3_pass := by decide +kernel
theorem mwX3_pass_1 : Cond.fieldLink RX3 107 "ShareDiskModel" "clock" "J" ∈ wsX3_pass := by decide +kernel
theorem iwX3_pass_X3 : ∀ w ∈ wsX30, w ∈ wsX3_pass := by decide +kernel
set_option maxHeartbeats 4000000 in
set_option maxRecDepth 100000 in
theorem kX3_pass (l : Launch) (D : va_G) (k : Nat → ClassId) (q : Nat → Nat) (zz : Nat) (tr : Int32) (ck : Int64) (hd : Int32) (po : Int64) (th we bu : Nat → Int32) (tg se gr ba : Nat → Int64) (tn sn un : Nat) (ow fi sz so wr dn ur : Nat → Int32) (dl : Nat → Int64) (sl le : Int32) (x : Int32) : ML l yX3_pass wsX3_pass ({ frames := 1, cells := 0, slots := 0, locals := 25 } : Room) D k (MoW q k tr ck hd po th we bu tg se gr ba tn sn un ow fi sz so wr dn ur dl sl le) zz [.ref (q 0), .int x] (fun r9 w9 => (¬ inw x (nI 0) (nI 1000000) ∧ r9 = 0 ∧ w9 = MoW q k (nI 1) ck hd po th we bu tg se gr ba tn sn un ow fi sz so wr dn ur dl sl le) ∨ (inw x (nI 0) (nI 1000000) ∧ r9 = ck + x.toInt64 ∧ w9 = MoW q k (nI 0) (ck + x.toInt64) hd po th we bu tg se gr ba tn sn un ow fi sz so wr dn ur dl sl le)) 0 0 := by
  refine bodyOf (Qc := fun A => QL D k (fun r9 w9 => (¬ inw x (nI 0) (nI 1000000) ∧ r9 = 0 ∧ w9 = MoW q k (nI 1) ck hd po th we bu tg se gr ba tn sn un ow fi sz so wr dn ur dl sl le) ∨ (inw x (nI 0) (nI 1000000) ∧ r9 = ck + x.toInt64 ∧ w9 = MoW q k (nI 0) (ck + x.toInt64) hd po th we bu tg se gr ba tn sn un ow fi sz so wr dn ur dl sl le)) A) (cc := cX3_pass) (maxL := 2) (ret := (some .long)) (by decide) rfl (Nat.le_of_ble_eq_true rfl) ?_
  intro p e s m below meth c A ls hc hA hK hP hD hS hl
  obtain ⟨hx, hb, hml, hr, hts, hown, hlocks, hin⟩ := (show _ from hc)
  have hl : lv_has ls 2 [(0, .ref (q 0)), (1, .int x)] := hl
  refine lv_aload_n hx hb dX3_pass_0 rfl (lv_at hl 0 rfl) ?_
  refine lv_iload_n hx hb dX3_pass_1 rfl (lv_at hl 1 rfl) ?_
  refine lv_i2l (v := x.toInt64) hx hb dX3_pass_2 rfl ?_
  refine lv_lconst (v := 0) hx hb dX3_pass_3 rfl ?_
  refine lv_ldc2 (v := (1000000)) hx hb hown (hts (.constantLong RX3 101 (1000000)) mwX3_pass_0) dX3_pass_4 ?_
  refine goSI hc (kX3_in l D k s.heap.size x.toInt64 0 (1000000)) (va_cwS 3 hts gX3_pass_X3_in rfl rfl rfl (by decide +kernel) ⟨(Nat.le_of_ble_eq_true rfl), (Nat.le_of_ble_eq_true rfl)⟩) hP hD hK hS hA rfl hl.1 rfl (Nat.le_of_ble_eq_true rfl) dX3_pass_7 (Nat.le_of_ble_eq_true rfl) (Nat.le_of_ble_eq_true rfl) (fun r9 B9 H locs hq hP hD hS => ?_)
  obtain ⟨hr9, -⟩ := hq
  subst hr9
  have hP : va_P D vwCl (MoW q k tr ck hd po th we bu tg se gr ba tn sn un ow fi sz so wr dn ur dl sl le) H := hP
  have hD : va_D A (MoW q k tr ck hd po th we bu tg se gr ba tn sn un ow fi sz so wr dn ur dl sl le) := hD
  refine lv_if_ne (tgt := 17) hx hb dX3_pass_10 (by decide) (fun c1 => ?_) (fun c1 => ?_)
  · refine lv_iconst (v := nI 0) hx hb dX3_pass_17 (by decide) ?_
    refine lv_iconst (v := nI 0) hx hb dX3_pass_18 (by decide) ?_
    refine goVI0 hc (kX3_fails l D k q H.size tr ck hd po th we bu tg se gr ba tn sn un ow fi sz so wr dn ur dl sl le (nI 0) (nI 0)) (cwV 2 hts gX3_pass_X3_fails rfl rfl rfl (by decide +kernel) ⟨(Nat.le_of_ble_eq_true rfl), (Nat.le_of_ble_eq_true rfl)⟩) hP hD hK hS hA (ci := 3) (q0 := 0) rfl rfl rfl hl.1 rfl (Nat.le_of_ble_eq_true rfl) dX3_pass_19 (Nat.le_of_ble_eq_true rfl) (Nat.le_of_ble_eq_true rfl) (fun r9 B9 H locs hq hP hD hS => ?_)
    obtain ⟨hr9, rfl⟩ := hq
    subst hr9
    have hP : va_P D vwCl (MoW q k (flF (nI 0) (nI 0)) ck hd po th we bu tg se gr ba tn sn un ow fi sz so wr dn ur dl sl le) H := hP
    have hD : va_D A (MoW q k (flF (nI 0) (nI 0)) ck hd po th we bu tg se gr ba tn sn un ow fi sz so wr dn ur dl sl le) := hD
    rw [flF_00] at hP hD
    have hP : va_P D vwCl (MoW q k (nI 0) ck hd po th we bu tg se gr ba tn sn un ow fi sz so wr dn ur dl sl le) H := hP
    have hD : va_D A (MoW q k (nI 0) ck hd po th we bu tg se gr ba tn sn un ow fi sz so wr dn ur dl sl le) := hD
    refine lv_if_eq (tgt := 27) hx hb dX3_pass_22 (by decide) (fun c2 => ?_) (fun c2 => False.elim (bI_1 c2 ⟨by decide, by decide⟩))
    refine lv_aload_n hx hb dX3_pass_27 rfl (lv_at hl 0 rfl) ?_
    refine lv_dup hx hb dX3_pass_28 rfl ?_
    refine va_get (D := D) (ci := 3) (v := .long ck) (C := RX3) (T := TX3) (N := 24) hx hb hts iwX3_pass_X3 hown hK hP 0 rfl rfl 1 (by decide) (hts (Cond.fieldLink RX3 107 "ShareDiskModel" "clock" "J") mwX3_pass_1) (fun _ h9 => h9) rfl dX3_pass_29 ?_
    refine lv_iload_n hx hb dX3_pass_32 rfl (lv_at hl 1 rfl) ?_
    refine lv_i2l (v := x.toInt64) hx hb dX3_pass_33 rfl ?_
    refine lv_ladd hx hb dX3_pass_34 ?_
    refine va_put (D := D) (ci := 3) (v := .long (ck + x.toInt64)) (ty := .long) (C := RX3) (T := TX3) (N := 24) hx hb hts iwX3_pass_X3 tyX3 tyX3_ok nmX3 hown hK hP hD hS 0 rfl rfl 1 (by decide) (hts (Cond.fieldLink RX3 107 "ShareDiskModel" "clock" "J") mwX3_pass_1) (fun _ h9 => h9) rfl (by decide +kernel) rfl rfl (Nat.le_of_ble_eq_true rfl) dX3_pass_35 (fun H locs hP hD hS => ?_)
    have hP : va_P D vwCl (MoW q k (nI 0) (ck + x.toInt64) hd po th we bu tg se gr ba tn sn un ow fi sz so wr dn ur dl sl le) H := hP
    have hD : va_D A (MoW q k (nI 0) (ck + x.toInt64) hd po th we bu tg se gr ba tn sn un ow fi sz so wr dn ur dl sl le) := hD
    refine lv_aload_n hx hb dX3_pass_38 rfl (lv_at hl 0 rfl) ?_
    refine va_get (D := D) (ci := 3) (v := .long (ck + x.toInt64)) (C := RX3) (T := TX3) (N := 24) hx hb hts iwX3_pass_X3 hown hK hP 0 rfl rfl 1 (by decide) (hts (Cond.fieldLink RX3 107 "ShareDiskModel" "clock" "J") mwX3_pass_1) (fun _ h9 => h9) rfl dX3_pass_39 ?_
    exact retL hc dX3_pass_42 hK hP hD hS (Or.inr ⟨(inL (a := 0) (b := 1000000) (by decide) (by decide) (by decide +kernel) (by decide +kernel)).mp (bI_1 c1), rfl, rfl⟩) (Nat.le_of_ble_eq_true rfl) (Nat.le_of_ble_eq_true rfl)
  · refine lv_iconst (v := nI 1) hx hb dX3_pass_13 (by decide) ?_
    refine lv_goto (tgt := 18) hx hb dX3_pass_14 (by decide) ?_
    refine lv_iconst (v := nI 0) hx hb dX3_pass_18 (by decide) ?_
    refine goVI0 hc (kX3_fails l D k q H.size tr ck hd po th we bu tg se gr ba tn sn un ow fi sz so wr dn ur dl sl le (nI 1) (nI 0)) (cwV 2 hts gX3_pass_X3_fails rfl rfl rfl (by decide +kernel) ⟨(Nat.le_of_ble_eq_true rfl), (Nat.le_of_ble_eq_true rfl)⟩) hP hD hK hS hA (ci := 3) (q0 := 0) rfl rfl rfl hl.1 rfl (Nat.le_of_ble_eq_true rfl) dX3_pass_19 (Nat.le_of_ble_eq_true rfl) (Nat.le_of_ble_eq_true rfl) (fun r9 B9 H locs hq hP hD hS => ?_)
    obtain ⟨hr9, rfl⟩ := hq
    subst hr9
    have hP : va_P D vwCl (MoW q k (flF (nI 1) (nI 0)) ck hd po th we bu tg se gr ba tn sn un ow fi sz so wr dn ur dl sl le) H := hP
    have hD : va_D A (MoW q k (flF (nI 1) (nI 0)) ck hd po th we bu tg se gr ba tn sn un ow fi sz so wr dn ur dl sl le) := hD
    rw [flF_10] at hP hD
    have hP : va_P D vwCl (MoW q k (nI 1) ck hd po th we bu tg se gr ba tn sn un ow fi sz so wr dn ur dl sl le) H := hP
    have hD : va_D A (MoW q k (nI 1) ck hd po th we bu tg se gr ba tn sn un ow fi sz so wr dn ur dl sl le) := hD
    refine lv_if_eq (tgt := 27) hx hb dX3_pass_22 (by decide) (fun c3 => False.elim (bI_0 c3 (by decide))) (fun c3 => ?_)
    refine lv_lconst (v := 0) hx hb dX3_pass_25 rfl ?_
    exact retL hc dX3_pass_26 hK hP hD hS (Or.inl ⟨fun h => bI_0 c1 ((inL (a := 0) (b := 1000000) (by decide) (by decide) (by decide +kernel) (by decide +kernel)).mpr h), rfl, rfl⟩) (Nat.le_of_ble_eq_true rfl) (Nat.le_of_ble_eq_true rfl)
/-- state -/
def rsF (dn ow wr fi sz ur : Nat → Int32) (t : Nat) : Int32 := if dn t = 0 then (if ibB dn ow wr fi sz t t = true then nI 0 else nI 1) else if ur t = 0 then nI 2 else nI 3
theorem mwX3_state_0 : Cond.fieldLink RX3 70 "ShareDiskModel" "tickets" "I" ∈ wsX3_state := by decide +kernel
theorem mwX3_state_1 : Cond.fieldLink RX3 48 "ShareDiskModel" "done" "[Z" ∈ wsX3_state := by decide +kernel
theorem mwX3_state_2 : Cond.fieldLink RX3 51 "ShareDiskModel" "urgent" "[Z" ∈ wsX3_state := by decide +kernel
theorem iwX3_state_X3 : ∀ w ∈ wsX30, w ∈ wsX3_state := by decide +kernel
set_option maxHeartbeats 4000000 in
set_option maxRecDepth 100000 in
theorem kX3_state (l : Launch) (D : va_G) (k : Nat → ClassId) (q : Nat → Nat) (zz : Nat) (tr : Int32) (ck : Int64) (hd : Int32) (po : Int64) (th we bu : Nat → Int32) (tg se gr ba : Nat → Int64) (tn sn un : Nat) (ow fi sz so wr dn ur : Nat → Int32) (dl : Nat → Int64) (sl le : Int32) (x : Int32) (htn : tn ≤ 500) : MI l yX3_state wsX3_state ({ frames := 1, cells := 0, slots := 0, locals := 25 } : Room) D k (MoW q k tr ck hd po th we bu tg se gr ba tn sn un ow fi sz so wr dn ur dl sl le) zz [.ref (q 0), .int x] (fun r9 w9 => (¬ (¬ x < 0 ∧ ¬ nI tn ≤ x) ∧ r9 = nI 0 ∧ w9 = MoW q k (nI 1) ck hd po th we bu tg se gr ba tn sn un ow fi sz so wr dn ur dl sl le) ∨ ∃ j, j < tn ∧ x = nI j ∧ r9 = rsF dn ow wr fi sz ur j ∧ w9 = MoW q k (nI 0) ck hd po th we bu tg se gr ba tn sn un ow fi sz so wr dn ur dl sl le) 0 0 := by
  refine bodyOf (Qc := fun A => QI D k (fun r9 w9 => (¬ (¬ x < 0 ∧ ¬ nI tn ≤ x) ∧ r9 = nI 0 ∧ w9 = MoW q k (nI 1) ck hd po th we bu tg se gr ba tn sn un ow fi sz so wr dn ur dl sl le) ∨ ∃ j, j < tn ∧ x = nI j ∧ r9 = rsF dn ow wr fi sz ur j ∧ w9 = MoW q k (nI 0) ck hd po th we bu tg se gr ba tn sn un ow fi sz so wr dn ur dl sl le) A) (cc := cX3_state) (maxL := 2) (ret := (some .int)) (by decide) rfl (Nat.le_of_ble_eq_true rfl) ?_
  intro p e s m below meth c A ls hc hA hK hP hD hS hl
  obtain ⟨hx, hb, hml, hr, hts, hown, hlocks, hin⟩ := (show _ from hc)
  have hl : lv_has ls 2 [(0, .ref (q 0)), (1, .int x)] := hl
  refine lv_aload_n hx hb dX3_state_0 rfl (lv_at hl 0 rfl) ?_
  refine lv_iload_n hx hb dX3_state_1 rfl (lv_at hl 1 rfl) ?_
  refine lv_i2l (v := x.toInt64) hx hb dX3_state_2 rfl ?_
  refine lv_lconst (v := 0) hx hb dX3_state_3 rfl ?_
  refine lv_aload_n hx hb dX3_state_4 rfl (lv_at hl 0 rfl) ?_
  refine va_get (D := D) (ci := 3) (v := .int (nI tn)) (C := RX3) (T := TX3) (N := 24) hx hb hts iwX3_state_X3 hown hK hP 0 rfl rfl 11 (by decide) (hts (Cond.fieldLink RX3 70 "ShareDiskModel" "tickets" "I") mwX3_state_0) (fun _ h9 => h9) rfl dX3_state_5 ?_
  refine lv_iconst (v := nI 1) hx hb dX3_state_8 (by decide) ?_
  refine lv_isub hx hb dX3_state_9 ?_
  refine lv_i2l (v := ((nI tn) - (nI 1)).toInt64) hx hb dX3_state_10 rfl ?_
  refine goSI hc (kX3_in l D k s.heap.size x.toInt64 0 (((nI tn) - (nI 1)).toInt64)) (va_cwS 3 hts gX3_state_X3_in rfl rfl rfl (by decide +kernel) ⟨(Nat.le_of_ble_eq_true rfl), (Nat.le_of_ble_eq_true rfl)⟩) hP hD hK hS hA rfl hl.1 rfl (Nat.le_of_ble_eq_true rfl) dX3_state_11 (Nat.le_of_ble_eq_true rfl) (Nat.le_of_ble_eq_true rfl) (fun r9 B9 H locs hq hP hD hS => ?_)
  obtain ⟨hr9, -⟩ := hq
  subst hr9
  have hP : va_P D vwCl (MoW q k tr ck hd po th we bu tg se gr ba tn sn un ow fi sz so wr dn ur dl sl le) H := hP
  have hD : va_D A (MoW q k tr ck hd po th we bu tg se gr ba tn sn un ow fi sz so wr dn ur dl sl le) := hD
  refine lv_if_ne (tgt := 21) hx hb dX3_state_14 (by decide) (fun c1 => ?_) (fun c1 => ?_)
  · have hx9 := (inT htn).mp (bI_1 c1)
    obtain ⟨j, hj, rfl⟩ := ofI hx9.1 hx9.2 (by omega)
    refine lv_iconst (v := nI 0) hx hb dX3_state_21 (by decide) ?_
    refine lv_iconst (v := nI 0) hx hb dX3_state_22 (by decide) ?_
    refine goVI0 hc (kX3_fails l D k q H.size tr ck hd po th we bu tg se gr ba tn sn un ow fi sz so wr dn ur dl sl le (nI 0) (nI 0)) (cwV 2 hts gX3_state_X3_fails rfl rfl rfl (by decide +kernel) ⟨(Nat.le_of_ble_eq_true rfl), (Nat.le_of_ble_eq_true rfl)⟩) hP hD hK hS hA (ci := 3) (q0 := 0) rfl rfl rfl hl.1 rfl (Nat.le_of_ble_eq_true rfl) dX3_state_23 (Nat.le_of_ble_eq_true rfl) (Nat.le_of_ble_eq_true rfl) (fun r9 B9 H locs hq hP hD hS => ?_)
    obtain ⟨hr9, rfl⟩ := hq
    subst hr9
    have hP : va_P D vwCl (MoW q k (flF (nI 0) (nI 0)) ck hd po th we bu tg se gr ba tn sn un ow fi sz so wr dn ur dl sl le) H := hP
    have hD : va_D A (MoW q k (flF (nI 0) (nI 0)) ck hd po th we bu tg se gr ba tn sn un ow fi sz so wr dn ur dl sl le) := hD
    rw [flF_00] at hP hD
    have hP : va_P D vwCl (MoW q k (nI 0) ck hd po th we bu tg se gr ba tn sn un ow fi sz so wr dn ur dl sl le) H := hP
    have hD : va_D A (MoW q k (nI 0) ck hd po th we bu tg se gr ba tn sn un ow fi sz so wr dn ur dl sl le) := hD
    refine lv_if_eq (tgt := 31) hx hb dX3_state_26 (by decide) (fun c2 => ?_) (fun c2 => False.elim (bI_1 c2 ⟨by decide, by decide⟩))
    refine lv_aload_n hx hb dX3_state_31 rfl (lv_at hl 0 rfl) ?_
    refine va_get (D := D) (ci := 3) (v := .ref (q 13)) (C := RX3) (T := TX3) (N := 24) hx hb hts iwX3_state_X3 hown hK hP 0 rfl rfl 19 (by decide) (hts (Cond.fieldLink RX3 48 "ShareDiskModel" "done" "[Z") mwX3_state_1) (fun _ h9 => h9) rfl dX3_state_32 ?_
    refine lv_iload_n hx hb dX3_state_35 rfl (lv_at hl 1 rfl) ?_
    refine aZ hx hb hK hP 13 0 rfl rfl (ix5 (by omega)) dX3_state_36 ?_
    refine lv_if_eq (tgt := 57) hx hb dX3_state_37 (by decide) (fun c3 => ?_) (fun c3 => ?_)
    · refine lv_aload_n hx hb dX3_state_57 rfl (lv_at hl 0 rfl) ?_
      refine lv_iload_n hx hb dX3_state_58 rfl (lv_at hl 1 rfl) ?_
      refine goVI0 hc (kX3_isBlocked l D k q H.size (nI 0) ck hd po th we bu tg se gr ba tn sn un ow fi sz so wr dn ur dl sl le j (by omega)) (cwV 1 hts gX3_state_X3_isBlocked rfl rfl rfl (by decide +kernel) ⟨(Nat.le_of_ble_eq_true rfl), (Nat.le_of_ble_eq_true rfl)⟩) hP hD hK hS hA (ci := 3) (q0 := 0) rfl rfl rfl hl.1 rfl (Nat.le_of_ble_eq_true rfl) dX3_state_59 (Nat.le_of_ble_eq_true rfl) (Nat.le_of_ble_eq_true rfl) (fun r9 B9 H locs hq hP hD hS => ?_)
      obtain ⟨hr9, rfl⟩ := hq
      subst hr9
      have hP : va_P D vwCl (MoW q k (nI 0) ck hd po th we bu tg se gr ba tn sn un ow fi sz so wr dn ur dl sl le) H := hP
      have hD : va_D A (MoW q k (nI 0) ck hd po th we bu tg se gr ba tn sn un ow fi sz so wr dn ur dl sl le) := hD
      refine lv_if_eq (tgt := 69) hx hb dX3_state_62 (by decide) (fun c4 => ?_) (fun c4 => ?_)
      · refine lv_iconst (v := nI 1) hx hb dX3_state_69 (by decide) ?_
        exact retI hc dX3_state_70 hK hP hD hS (Or.inr ⟨j, hj, rfl, by rw [rsF, if_pos c3, if_neg (bI_0 c4)], rfl⟩) (Nat.le_of_ble_eq_true rfl) (Nat.le_of_ble_eq_true rfl)
      · refine lv_iconst (v := nI 0) hx hb dX3_state_65 (by decide) ?_
        refine lv_goto (tgt := 70) hx hb dX3_state_66 (by decide) ?_
        exact retI hc dX3_state_70 hK hP hD hS (Or.inr ⟨j, hj, rfl, by rw [rsF, if_pos c3, if_pos (bI_1 c4)], rfl⟩) (Nat.le_of_ble_eq_true rfl) (Nat.le_of_ble_eq_true rfl)
    · refine lv_aload_n hx hb dX3_state_40 rfl (lv_at hl 0 rfl) ?_
      refine va_get (D := D) (ci := 3) (v := .ref (q 14)) (C := RX3) (T := TX3) (N := 24) hx hb hts iwX3_state_X3 hown hK hP 0 rfl rfl 20 (by decide) (hts (Cond.fieldLink RX3 51 "ShareDiskModel" "urgent" "[Z") mwX3_state_2) (fun _ h9 => h9) rfl dX3_state_41 ?_
      refine lv_iload_n hx hb dX3_state_44 rfl (lv_at hl 1 rfl) ?_
      refine aZ hx hb hK hP 14 0 rfl rfl (ix5 (by omega)) dX3_state_45 ?_
      refine lv_if_eq (tgt := 53) hx hb dX3_state_46 (by decide) (fun c5 => ?_) (fun c5 => ?_)
      · refine lv_iconst (v := nI 2) hx hb dX3_state_53 (by decide) ?_
        refine lv_goto (tgt := 70) hx hb dX3_state_54 (by decide) ?_
        exact retI hc dX3_state_70 hK hP hD hS (Or.inr ⟨j, hj, rfl, by rw [rsF, if_neg c3, if_pos c5], rfl⟩) (Nat.le_of_ble_eq_true rfl) (Nat.le_of_ble_eq_true rfl)
      · refine lv_iconst (v := nI 3) hx hb dX3_state_49 (by decide) ?_
        refine lv_goto (tgt := 70) hx hb dX3_state_50 (by decide) ?_
        exact retI hc dX3_state_70 hK hP hD hS (Or.inr ⟨j, hj, rfl, by rw [rsF, if_neg c3, if_neg c5], rfl⟩) (Nat.le_of_ble_eq_true rfl) (Nat.le_of_ble_eq_true rfl)
  · refine lv_iconst (v := nI 1) hx hb dX3_state_17 (by decide) ?_
    refine lv_goto (tgt := 22) hx hb dX3_state_18 (by decide) ?_
    refine lv_iconst (v := nI 0) hx hb dX3_state_22 (by decide) ?_
    refine goVI0 hc (kX3_fails l D k q H.size tr ck hd po th we bu tg se gr ba tn sn un ow fi sz so wr dn ur dl sl le (nI 1) (nI 0)) (cwV 2 hts gX3_state_X3_fails rfl rfl rfl (by decide +kernel) ⟨(Nat.le_of_ble_eq_true rfl), (Nat.le_of_ble_eq_true rfl)⟩) hP hD hK hS hA (ci := 3) (q0 := 0) rfl rfl rfl hl.1 rfl (Nat.le_of_ble_eq_true rfl) dX3_state_23 (Nat.le_of_ble_eq_true rfl) (Nat.le_of_ble_eq_true rfl) (fun r9 B9 H locs hq hP hD hS => ?_)
    obtain ⟨hr9, rfl⟩ := hq
    subst hr9
    have hP : va_P D vwCl (MoW q k (flF (nI 1) (nI 0)) ck hd po th we bu tg se gr ba tn sn un ow fi sz so wr dn ur dl sl le) H := hP
    have hD : va_D A (MoW q k (flF (nI 1) (nI 0)) ck hd po th we bu tg se gr ba tn sn un ow fi sz so wr dn ur dl sl le) := hD
    rw [flF_10] at hP hD
    have hP : va_P D vwCl (MoW q k (nI 1) ck hd po th we bu tg se gr ba tn sn un ow fi sz so wr dn ur dl sl le) H := hP
    have hD : va_D A (MoW q k (nI 1) ck hd po th we bu tg se gr ba tn sn un ow fi sz so wr dn ur dl sl le) := hD
    refine lv_if_eq (tgt := 31) hx hb dX3_state_26 (by decide) (fun c6 => False.elim (bI_0 c6 (by decide))) (fun c6 => ?_)
    refine lv_iconst (v := nI 0) hx hb dX3_state_29 (by decide) ?_
    exact retI hc dX3_state_30 hK hP hD hS (Or.inl ⟨fun h => bI_0 c1 ((inT htn).mpr h), rfl, rfl⟩) (Nat.le_of_ble_eq_true rfl) (Nat.le_of_ble_eq_true rfl)
theorem mwX3_order_0 : Cond.fieldLink RX3 61 "ShareDiskModel" "thrown" "I" ∈ wsX3_order := by decide +kernel
theorem mwX3_order_1 : Cond.fieldLink RX3 124 "ShareDiskModel" "served" "I" ∈ wsX3_order := by decide +kernel
theorem mwX3_order_2 : Cond.fieldLink RX3 42 "ShareDiskModel" "order" "[I" ∈ wsX3_order := by decide +kernel
theorem iwX3_order_X3 : ∀ w ∈ wsX30, w ∈ wsX3_order := by decide +kernel
set_option maxHeartbeats 4000000 in
set_option maxRecDepth 100000 in
theorem kX3_order (l : Launch) (D : va_G) (k : Nat → ClassId) (q : Nat → Nat) (zz : Nat) (tr : Int32) (ck : Int64) (hd : Int32) (po : Int64) (th we bu : Nat → Int32) (tg se gr ba : Nat → Int64) (tn sn un : Nat) (ow fi sz so wr dn ur : Nat → Int32) (dl : Nat → Int64) (sl le : Int32) (x : Int32) (hsn : sn ≤ 500) : MI l yX3_order wsX3_order ({ frames := 1, cells := 0, slots := 0, locals := 25 } : Room) D k (MoW q k tr ck hd po th we bu tg se gr ba tn sn un ow fi sz so wr dn ur dl sl le) zz [.ref (q 0), .int x] (fun r9 w9 => r9 = (sAt so sn x) ∧ w9 = MoW q k (nI 0) ck hd po th we bu tg se gr ba tn sn un ow fi sz so wr dn ur dl sl le) 0 0 := by
  refine bodyOf (Qc := fun A => QI D k (fun r9 w9 => r9 = (sAt so sn x) ∧ w9 = MoW q k (nI 0) ck hd po th we bu tg se gr ba tn sn un ow fi sz so wr dn ur dl sl le) A) (cc := cX3_order) (maxL := 2) (ret := (some .int)) (by decide) rfl (Nat.le_of_ble_eq_true rfl) ?_
  intro p e s m below meth c A ls hc hA hK hP hD hS hl
  obtain ⟨hx, hb, hml, hr, hts, hown, hlocks, hin⟩ := (show _ from hc)
  have hl : lv_has ls 2 [(0, .ref (q 0)), (1, .int x)] := hl
  refine lv_aload_n hx hb dX3_order_0 rfl (lv_at hl 0 rfl) ?_
  refine lv_iconst (v := nI 0) hx hb dX3_order_1 (by decide) ?_
  refine va_put (D := D) (ci := 3) (v := .int (nI 0)) (ty := .int) (C := RX3) (T := TX3) (N := 24) hx hb hts iwX3_order_X3 tyX3 tyX3_ok nmX3 hown hK hP hD hS 0 rfl rfl 0 (by decide) (hts (Cond.fieldLink RX3 61 "ShareDiskModel" "thrown" "I") mwX3_order_0) (fun _ h9 => h9) rfl (by decide +kernel) rfl rfl (Nat.le_of_ble_eq_true rfl) dX3_order_2 (fun H locs hP hD hS => ?_)
  have hP : va_P D vwCl (MoW q k (nI 0) ck hd po th we bu tg se gr ba tn sn un ow fi sz so wr dn ur dl sl le) H := hP
  have hD : va_D A (MoW q k (nI 0) ck hd po th we bu tg se gr ba tn sn un ow fi sz so wr dn ur dl sl le) := hD
  refine lv_iload_n hx hb dX3_order_5 rfl (lv_at hl 1 rfl) ?_
  refine lv_i2l (v := x.toInt64) hx hb dX3_order_6 rfl ?_
  refine lv_lconst (v := 0) hx hb dX3_order_7 rfl ?_
  refine lv_aload_n hx hb dX3_order_8 rfl (lv_at hl 0 rfl) ?_
  refine va_get (D := D) (ci := 3) (v := .int (nI sn)) (C := RX3) (T := TX3) (N := 24) hx hb hts iwX3_order_X3 hown hK hP 0 rfl rfl 12 (by decide) (hts (Cond.fieldLink RX3 124 "ShareDiskModel" "served" "I") mwX3_order_1) (fun _ h9 => h9) rfl dX3_order_9 ?_
  refine lv_iconst (v := nI 1) hx hb dX3_order_12 (by decide) ?_
  refine lv_isub hx hb dX3_order_13 ?_
  refine lv_i2l (v := ((nI sn) - (nI 1)).toInt64) hx hb dX3_order_14 rfl ?_
  refine goSI hc (kX3_in l D k H.size x.toInt64 0 (((nI sn) - (nI 1)).toInt64)) (va_cwS 3 hts gX3_order_X3_in rfl rfl rfl (by decide +kernel) ⟨(Nat.le_of_ble_eq_true rfl), (Nat.le_of_ble_eq_true rfl)⟩) hP hD hK hS hA rfl hl.1 rfl (Nat.le_of_ble_eq_true rfl) dX3_order_15 (Nat.le_of_ble_eq_true rfl) (Nat.le_of_ble_eq_true rfl) (fun r9 B9 H locs hq hP hD hS => ?_)
  obtain ⟨hr9, -⟩ := hq
  subst hr9
  have hP : va_P D vwCl (MoW q k (nI 0) ck hd po th we bu tg se gr ba tn sn un ow fi sz so wr dn ur dl sl le) H := hP
  have hD : va_D A (MoW q k (nI 0) ck hd po th we bu tg se gr ba tn sn un ow fi sz so wr dn ur dl sl le) := hD
  refine lv_if_eq (tgt := 30) hx hb dX3_order_18 (by decide) (fun c1 => ?_) (fun c1 => ?_)
  · have hx9 := fun h => bI_0 c1 ((inT hsn).mpr h)
    refine lv_iconst (v := (-1)) hx hb dX3_order_30 (by decide) ?_
    exact retI hc dX3_order_31 hK hP hD hS (⟨by unfold sAt; split; rfl; rename_i h1; rw [if_pos (Classical.byContradiction fun h2 => hx9 ⟨h1, h2⟩)], rfl⟩) (Nat.le_of_ble_eq_true rfl) (Nat.le_of_ble_eq_true rfl)
  · have hx9 := (inT hsn).mp (bI_1 c1)
    obtain ⟨j, hj, rfl⟩ := ofI hx9.1 hx9.2 (by omega)
    refine lv_aload_n hx hb dX3_order_21 rfl (lv_at hl 0 rfl) ?_
    refine va_get (D := D) (ci := 3) (v := .ref (q 11)) (C := RX3) (T := TX3) (N := 24) hx hb hts iwX3_order_X3 hown hK hP 0 rfl rfl 17 (by decide) (hts (Cond.fieldLink RX3 42 "ShareDiskModel" "order" "[I") mwX3_order_2) (fun _ h9 => h9) rfl dX3_order_22 ?_
    refine lv_iload_n hx hb dX3_order_25 rfl (lv_at hl 1 rfl) ?_
    refine aI hx hb hK hP 11 1 rfl rfl (ix5 (by omega)) dX3_order_26 ?_
    refine lv_goto (tgt := 31) hx hb dX3_order_27 (by decide) ?_
    exact retI hc dX3_order_31 hK hP hD hS (⟨by rw [sAt, if_neg hx9.1, if_neg hx9.2, nI_clamp (by omega)], rfl⟩) (Nat.le_of_ble_eq_true rfl) (Nat.le_of_ble_eq_true rfl)
theorem mwX3_tag_0 : Cond.fieldLink RX3 20 "ShareDiskModel" "tags" "[J" ∈ wsX3_tag := by decide +kernel
theorem iwX3_tag_X3 : ∀ w ∈ wsX30, w ∈ wsX3_tag := by decide +kernel
set_option maxHeartbeats 4000000 in
set_option maxRecDepth 100000 in
theorem kX3_tag (l : Launch) (D : va_G) (k : Nat → ClassId) (q : Nat → Nat) (zz : Nat) (tr : Int32) (ck : Int64) (hd : Int32) (po : Int64) (th we bu : Nat → Int32) (tg se gr ba : Nat → Int64) (tn sn un : Nat) (ow fi sz so wr dn ur : Nat → Int32) (dl : Nat → Int64) (sl le : Int32) (x : Int32) : ML l yX3_tag wsX3_tag ({ frames := 2, cells := 0, slots := 0, locals := 46 } : Room) D k (MoW q k tr ck hd po th we bu tg se gr ba tn sn un ow fi sz so wr dn ur dl sl le) zz [.ref (q 0), .int x] (fun r9 w9 => (¬ x = nI 8 ∧ ¬ isT th x ∧ r9 = 0 ∧ w9 = MoW q k (nI 1) ck hd po th we bu tg se gr ba tn sn un ow fi sz so wr dn ur dl sl le) ∨ (x = nI 8 ∧ r9 = tg 8 ∧ w9 = MoW q k (nI 0) ck hd po th we bu tg se gr ba tn sn un ow fi sz so wr dn ur dl sl le) ∨ (¬ x = nI 8 ∧ ∃ j, j < 8 ∧ x = nI j ∧ ¬ th j = 0 ∧ r9 = tg j ∧ w9 = MoW q k (nI 0) ck hd po th we bu tg se gr ba tn sn un ow fi sz so wr dn ur dl sl le)) 0 0 := by
  refine bodyOf (Qc := fun A => QL D k (fun r9 w9 => (¬ x = nI 8 ∧ ¬ isT th x ∧ r9 = 0 ∧ w9 = MoW q k (nI 1) ck hd po th we bu tg se gr ba tn sn un ow fi sz so wr dn ur dl sl le) ∨ (x = nI 8 ∧ r9 = tg 8 ∧ w9 = MoW q k (nI 0) ck hd po th we bu tg se gr ba tn sn un ow fi sz so wr dn ur dl sl le) ∨ (¬ x = nI 8 ∧ ∃ j, j < 8 ∧ x = nI j ∧ ¬ th j = 0 ∧ r9 = tg j ∧ w9 = MoW q k (nI 0) ck hd po th we bu tg se gr ba tn sn un ow fi sz so wr dn ur dl sl le)) A) (cc := cX3_tag) (maxL := 2) (ret := (some .long)) (by decide) rfl (Nat.le_of_ble_eq_true rfl) ?_
  intro p e s m below meth c A ls hc hA hK hP hD hS hl
  obtain ⟨hx, hb, hml, hr, hts, hown, hlocks, hin⟩ := (show _ from hc)
  have hl : lv_has ls 2 [(0, .ref (q 0)), (1, .int x)] := hl
  refine lv_aload_n hx hb dX3_tag_0 rfl (lv_at hl 0 rfl) ?_
  refine lv_iload_n hx hb dX3_tag_1 rfl (lv_at hl 1 rfl) ?_
  refine lv_bipush (v := nI 8) hx hb dX3_tag_2 (by decide) ?_
  refine lv_icmp_eq (tgt := 19) hx hb dX3_tag_4 (by decide) (fun c1 => ?_) (fun c1 => ?_)
  · have hx8 := c1
    subst hx8
    refine lv_iconst (v := nI 0) hx hb dX3_tag_19 (by decide) ?_
    refine lv_iconst (v := nI 0) hx hb dX3_tag_20 (by decide) ?_
    refine goVI0 hc (kX3_fails l D k q s.heap.size tr ck hd po th we bu tg se gr ba tn sn un ow fi sz so wr dn ur dl sl le (nI 0) (nI 0)) (cwV 2 hts gX3_tag_X3_fails rfl rfl rfl (by decide +kernel) ⟨(Nat.le_of_ble_eq_true rfl), (Nat.le_of_ble_eq_true rfl)⟩) hP hD hK hS hA (ci := 3) (q0 := 0) rfl rfl rfl hl.1 rfl (Nat.le_of_ble_eq_true rfl) dX3_tag_21 (Nat.le_of_ble_eq_true rfl) (Nat.le_of_ble_eq_true rfl) (fun r9 B9 H locs hq hP hD hS => ?_)
    obtain ⟨hr9, rfl⟩ := hq
    subst hr9
    have hP : va_P D vwCl (MoW q k (flF (nI 0) (nI 0)) ck hd po th we bu tg se gr ba tn sn un ow fi sz so wr dn ur dl sl le) H := hP
    have hD : va_D A (MoW q k (flF (nI 0) (nI 0)) ck hd po th we bu tg se gr ba tn sn un ow fi sz so wr dn ur dl sl le) := hD
    rw [flF_00] at hP hD
    have hP : va_P D vwCl (MoW q k (nI 0) ck hd po th we bu tg se gr ba tn sn un ow fi sz so wr dn ur dl sl le) H := hP
    have hD : va_D A (MoW q k (nI 0) ck hd po th we bu tg se gr ba tn sn un ow fi sz so wr dn ur dl sl le) := hD
    refine lv_if_eq (tgt := 29) hx hb dX3_tag_24 (by decide) (fun c2 => ?_) (fun c2 => False.elim (bI_1 c2 ⟨by decide, by decide⟩))
    refine lv_aload_n hx hb dX3_tag_29 rfl (lv_at hl 0 rfl) ?_
    refine va_get (D := D) (ci := 3) (v := .ref (q 4)) (C := RX3) (T := TX3) (N := 24) hx hb hts iwX3_tag_X3 hown hK hP 0 rfl rfl 7 (by decide) (hts (Cond.fieldLink RX3 20 "ShareDiskModel" "tags" "[J") mwX3_tag_0) (fun _ h9 => h9) rfl dX3_tag_30 ?_
    refine lv_iload_n hx hb dX3_tag_33 rfl (lv_at hl 1 rfl) ?_
    refine aJ hx hb hK hP 4 2 rfl rfl (ix9 (by decide)) dX3_tag_34 ?_
    exact retL hc dX3_tag_35 hK hP hD hS (Or.inr (Or.inl ⟨rfl, rfl, rfl⟩)) (Nat.le_of_ble_eq_true rfl) (Nat.le_of_ble_eq_true rfl)
  · refine lv_aload_n hx hb dX3_tag_7 rfl (lv_at hl 0 rfl) ?_
    refine lv_iload_n hx hb dX3_tag_8 rfl (lv_at hl 1 rfl) ?_
    refine goVI0 hc (kX3_isThere l D k q s.heap.size tr ck hd po th we bu tg se gr ba tn sn un ow fi sz so wr dn ur dl sl le x) (cwV 1 hts gX3_tag_X3_isThere rfl rfl rfl (by decide +kernel) ⟨(Nat.le_of_ble_eq_true rfl), (Nat.le_of_ble_eq_true rfl)⟩) hP hD hK hS hA (ci := 3) (q0 := 0) rfl rfl rfl hl.1 rfl (Nat.le_of_ble_eq_true rfl) dX3_tag_9 (Nat.le_of_ble_eq_true rfl) (Nat.le_of_ble_eq_true rfl) (fun r9 B9 H locs hq hP hD hS => ?_)
    obtain ⟨hr9, rfl⟩ := hq
    subst hr9
    have hP : va_P D vwCl (MoW q k tr ck hd po th we bu tg se gr ba tn sn un ow fi sz so wr dn ur dl sl le) H := hP
    have hD : va_D A (MoW q k tr ck hd po th we bu tg se gr ba tn sn un ow fi sz so wr dn ur dl sl le) := hD
    refine lv_if_ne (tgt := 19) hx hb dX3_tag_12 (by decide) (fun c3 => ?_) (fun c3 => ?_)
    · obtain ⟨j, hj, rfl, hthj⟩ := thB_isT.mp (bI_1 c3)
      refine lv_iconst (v := nI 0) hx hb dX3_tag_19 (by decide) ?_
      refine lv_iconst (v := nI 0) hx hb dX3_tag_20 (by decide) ?_
      refine goVI0 hc (kX3_fails l D k q H.size tr ck hd po th we bu tg se gr ba tn sn un ow fi sz so wr dn ur dl sl le (nI 0) (nI 0)) (cwV 2 hts gX3_tag_X3_fails rfl rfl rfl (by decide +kernel) ⟨(Nat.le_of_ble_eq_true rfl), (Nat.le_of_ble_eq_true rfl)⟩) hP hD hK hS hA (ci := 3) (q0 := 0) rfl rfl rfl hl.1 rfl (Nat.le_of_ble_eq_true rfl) dX3_tag_21 (Nat.le_of_ble_eq_true rfl) (Nat.le_of_ble_eq_true rfl) (fun r9 B9 H locs hq hP hD hS => ?_)
      obtain ⟨hr9, rfl⟩ := hq
      subst hr9
      have hP : va_P D vwCl (MoW q k (flF (nI 0) (nI 0)) ck hd po th we bu tg se gr ba tn sn un ow fi sz so wr dn ur dl sl le) H := hP
      have hD : va_D A (MoW q k (flF (nI 0) (nI 0)) ck hd po th we bu tg se gr ba tn sn un ow fi sz so wr dn ur dl sl le) := hD
      rw [flF_00] at hP hD
      have hP : va_P D vwCl (MoW q k (nI 0) ck hd po th we bu tg se gr ba tn sn un ow fi sz so wr dn ur dl sl le) H := hP
      have hD : va_D A (MoW q k (nI 0) ck hd po th we bu tg se gr ba tn sn un ow fi sz so wr dn ur dl sl le) := hD
      refine lv_if_eq (tgt := 29) hx hb dX3_tag_24 (by decide) (fun c4 => ?_) (fun c4 => False.elim (bI_1 c4 ⟨by decide, by decide⟩))
      refine lv_aload_n hx hb dX3_tag_29 rfl (lv_at hl 0 rfl) ?_
      refine va_get (D := D) (ci := 3) (v := .ref (q 4)) (C := RX3) (T := TX3) (N := 24) hx hb hts iwX3_tag_X3 hown hK hP 0 rfl rfl 7 (by decide) (hts (Cond.fieldLink RX3 20 "ShareDiskModel" "tags" "[J") mwX3_tag_0) (fun _ h9 => h9) rfl dX3_tag_30 ?_
      refine lv_iload_n hx hb dX3_tag_33 rfl (lv_at hl 1 rfl) ?_
      refine aJ hx hb hK hP 4 2 rfl rfl (ix9 (by omega)) dX3_tag_34 ?_
      exact retL hc dX3_tag_35 hK hP hD hS (Or.inr (Or.inr ⟨c1, j, hj, rfl, hthj, rfl, rfl⟩)) (Nat.le_of_ble_eq_true rfl) (Nat.le_of_ble_eq_true rfl)
    · refine lv_iconst (v := nI 1) hx hb dX3_tag_15 (by decide) ?_
      refine lv_goto (tgt := 20) hx hb dX3_tag_16 (by decide) ?_
      refine lv_iconst (v := nI 0) hx hb dX3_tag_20 (by decide) ?_
      refine goVI0 hc (kX3_fails l D k q H.size tr ck hd po th we bu tg se gr ba tn sn un ow fi sz so wr dn ur dl sl le (nI 1) (nI 0)) (cwV 2 hts gX3_tag_X3_fails rfl rfl rfl (by decide +kernel) ⟨(Nat.le_of_ble_eq_true rfl), (Nat.le_of_ble_eq_true rfl)⟩) hP hD hK hS hA (ci := 3) (q0 := 0) rfl rfl rfl hl.1 rfl (Nat.le_of_ble_eq_true rfl) dX3_tag_21 (Nat.le_of_ble_eq_true rfl) (Nat.le_of_ble_eq_true rfl) (fun r9 B9 H locs hq hP hD hS => ?_)
      obtain ⟨hr9, rfl⟩ := hq
      subst hr9
      have hP : va_P D vwCl (MoW q k (flF (nI 1) (nI 0)) ck hd po th we bu tg se gr ba tn sn un ow fi sz so wr dn ur dl sl le) H := hP
      have hD : va_D A (MoW q k (flF (nI 1) (nI 0)) ck hd po th we bu tg se gr ba tn sn un ow fi sz so wr dn ur dl sl le) := hD
      rw [flF_10] at hP hD
      have hP : va_P D vwCl (MoW q k (nI 1) ck hd po th we bu tg se gr ba tn sn un ow fi sz so wr dn ur dl sl le) H := hP
      have hD : va_D A (MoW q k (nI 1) ck hd po th we bu tg se gr ba tn sn un ow fi sz so wr dn ur dl sl le) := hD
      refine lv_if_eq (tgt := 29) hx hb dX3_tag_24 (by decide) (fun c5 => False.elim (bI_0 c5 (by decide))) (fun c5 => ?_)
      refine lv_lconst (v := 0) hx hb dX3_tag_27 rfl ?_
      exact retL hc dX3_tag_28 hK hP hD hS (Or.inl ⟨c1, fun h => bI_0 c3 (thB_isT.mpr h), rfl, rfl⟩) (Nat.le_of_ble_eq_true rfl) (Nat.le_of_ble_eq_true rfl)
theorem mwX3_lag_0 : Cond.fieldLink RX3 27 "ShareDiskModel" "grown" "[J" ∈ wsX3_lag := by decide +kernel
theorem mwX3_lag_1 : Cond.fieldLink RX3 30 "ShareDiskModel" "bases" "[J" ∈ wsX3_lag := by decide +kernel
theorem iwX3_lag_X3 : ∀ w ∈ wsX30, w ∈ wsX3_lag := by decide +kernel
set_option maxHeartbeats 4000000 in
set_option maxRecDepth 100000 in
theorem kX3_lag (l : Launch) (D : va_G) (k : Nat → ClassId) (q : Nat → Nat) (zz : Nat) (tr : Int32) (ck : Int64) (hd : Int32) (po : Int64) (th we bu : Nat → Int32) (tg se gr ba : Nat → Int64) (tn sn un : Nat) (ow fi sz so wr dn ur : Nat → Int32) (dl : Nat → Int64) (sl le : Int32) (x : Int32) (y : Int32) (htn : tn ≤ 500) : ML l yX3_lag wsX3_lag ({ frames := 2, cells := 0, slots := 0, locals := 46 } : Room) D k (MoW q k tr ck hd po th we bu tg se gr ba tn sn un ow fi sz so wr dn ur dl sl le) zz [.ref (q 0), .int x, .int y] (fun r9 w9 => (¬ (isT th x ∧ isT th y ∧ ¬ x = y) ∧ r9 = 0 ∧ w9 = MoW q k (nI 1) ck hd po th we bu tg se gr ba tn sn un ow fi sz so wr dn ur dl sl le) ∨ ∃ a b, a < 8 ∧ b < 8 ∧ x = nI a ∧ y = nI b ∧ ¬ th a = 0 ∧ ¬ th b = 0 ∧ ¬ x = y ∧ r9 = (if wcI dn ow tn a = 0 then 0 else if wcI dn ow tn b = 0 then 0 else gr a - ba (8 * a + b) - (gr b - ba (8 * b + a))) ∧ w9 = MoW q k (nI 0) ck hd po th we bu tg se gr ba tn sn un ow fi sz so wr dn ur dl sl le) 0 0 := by
  refine bodyOf (Qc := fun A => QL D k (fun r9 w9 => (¬ (isT th x ∧ isT th y ∧ ¬ x = y) ∧ r9 = 0 ∧ w9 = MoW q k (nI 1) ck hd po th we bu tg se gr ba tn sn un ow fi sz so wr dn ur dl sl le) ∨ ∃ a b, a < 8 ∧ b < 8 ∧ x = nI a ∧ y = nI b ∧ ¬ th a = 0 ∧ ¬ th b = 0 ∧ ¬ x = y ∧ r9 = (if wcI dn ow tn a = 0 then 0 else if wcI dn ow tn b = 0 then 0 else gr a - ba (8 * a + b) - (gr b - ba (8 * b + a))) ∧ w9 = MoW q k (nI 0) ck hd po th we bu tg se gr ba tn sn un ow fi sz so wr dn ur dl sl le) A) (cc := cX3_lag) (maxL := 3) (ret := (some .long)) (by decide) rfl (Nat.le_of_ble_eq_true rfl) ?_
  intro p e s m below meth c A ls hc hA hK hP hD hS hl
  obtain ⟨hx, hb, hml, hr, hts, hown, hlocks, hin⟩ := (show _ from hc)
  have hl : lv_has ls 3 [(0, .ref (q 0)), (1, .int x), (2, .int y)] := hl
  refine lv_aload_n hx hb dX3_lag_0 rfl (lv_at hl 0 rfl) ?_
  refine lv_aload_n hx hb dX3_lag_1 rfl (lv_at hl 0 rfl) ?_
  refine lv_iload_n hx hb dX3_lag_2 rfl (lv_at hl 1 rfl) ?_
  refine goVI0 hc (kX3_isThere l D k q s.heap.size tr ck hd po th we bu tg se gr ba tn sn un ow fi sz so wr dn ur dl sl le x) (cwV 1 hts gX3_lag_X3_isThere rfl rfl rfl (by decide +kernel) ⟨(Nat.le_of_ble_eq_true rfl), (Nat.le_of_ble_eq_true rfl)⟩) hP hD hK hS hA (ci := 3) (q0 := 0) rfl rfl rfl hl.1 rfl (Nat.le_of_ble_eq_true rfl) dX3_lag_3 (Nat.le_of_ble_eq_true rfl) (Nat.le_of_ble_eq_true rfl) (fun r9 B9 H locs hq hP hD hS => ?_)
  obtain ⟨hr9, rfl⟩ := hq
  subst hr9
  have hP : va_P D vwCl (MoW q k tr ck hd po th we bu tg se gr ba tn sn un ow fi sz so wr dn ur dl sl le) H := hP
  have hD : va_D A (MoW q k tr ck hd po th we bu tg se gr ba tn sn un ow fi sz so wr dn ur dl sl le) := hD
  refine lv_if_eq (tgt := 22) hx hb dX3_lag_6 (by decide) (fun c1 => ?_) (fun c1 => ?_)
  · refine lv_iconst (v := nI 1) hx hb dX3_lag_22 (by decide) ?_
    refine lv_goto (tgt := 27) hx hb dX3_lag_23 (by decide) ?_
    refine lv_iconst (v := nI 0) hx hb dX3_lag_27 (by decide) ?_
    refine goVI0 hc (kX3_fails l D k q H.size tr ck hd po th we bu tg se gr ba tn sn un ow fi sz so wr dn ur dl sl le (nI 1) (nI 0)) (cwV 2 hts gX3_lag_X3_fails rfl rfl rfl (by decide +kernel) ⟨(Nat.le_of_ble_eq_true rfl), (Nat.le_of_ble_eq_true rfl)⟩) hP hD hK hS hA (ci := 3) (q0 := 0) rfl rfl rfl hl.1 rfl (Nat.le_of_ble_eq_true rfl) dX3_lag_28 (Nat.le_of_ble_eq_true rfl) (Nat.le_of_ble_eq_true rfl) (fun r9 B9 H locs hq hP hD hS => ?_)
    obtain ⟨hr9, rfl⟩ := hq
    subst hr9
    have hP : va_P D vwCl (MoW q k (flF (nI 1) (nI 0)) ck hd po th we bu tg se gr ba tn sn un ow fi sz so wr dn ur dl sl le) H := hP
    have hD : va_D A (MoW q k (flF (nI 1) (nI 0)) ck hd po th we bu tg se gr ba tn sn un ow fi sz so wr dn ur dl sl le) := hD
    rw [flF_10] at hP hD
    have hP : va_P D vwCl (MoW q k (nI 1) ck hd po th we bu tg se gr ba tn sn un ow fi sz so wr dn ur dl sl le) H := hP
    have hD : va_D A (MoW q k (nI 1) ck hd po th we bu tg se gr ba tn sn un ow fi sz so wr dn ur dl sl le) := hD
    refine lv_if_eq (tgt := 36) hx hb dX3_lag_31 (by decide) (fun c2 => False.elim (bI_0 c2 (by decide))) (fun c2 => ?_)
    refine lv_lconst (v := 0) hx hb dX3_lag_34 rfl ?_
    exact retL hc dX3_lag_35 hK hP hD hS (Or.inl ⟨fun h => bI_0 c1 (thB_isT.mpr h.1), rfl, rfl⟩) (Nat.le_of_ble_eq_true rfl) (Nat.le_of_ble_eq_true rfl)
  · have hxa := thB_isT.mp (bI_1 c1)
    refine lv_aload_n hx hb dX3_lag_9 rfl (lv_at hl 0 rfl) ?_
    refine lv_iload_n hx hb dX3_lag_10 rfl (lv_at hl 2 rfl) ?_
    refine goVI0 hc (kX3_isThere l D k q H.size tr ck hd po th we bu tg se gr ba tn sn un ow fi sz so wr dn ur dl sl le y) (cwV 1 hts gX3_lag_X3_isThere rfl rfl rfl (by decide +kernel) ⟨(Nat.le_of_ble_eq_true rfl), (Nat.le_of_ble_eq_true rfl)⟩) hP hD hK hS hA (ci := 3) (q0 := 0) rfl rfl rfl hl.1 rfl (Nat.le_of_ble_eq_true rfl) dX3_lag_11 (Nat.le_of_ble_eq_true rfl) (Nat.le_of_ble_eq_true rfl) (fun r9 B9 H locs hq hP hD hS => ?_)
    obtain ⟨hr9, rfl⟩ := hq
    subst hr9
    have hP : va_P D vwCl (MoW q k tr ck hd po th we bu tg se gr ba tn sn un ow fi sz so wr dn ur dl sl le) H := hP
    have hD : va_D A (MoW q k tr ck hd po th we bu tg se gr ba tn sn un ow fi sz so wr dn ur dl sl le) := hD
    refine lv_if_eq (tgt := 22) hx hb dX3_lag_14 (by decide) (fun c3 => ?_) (fun c3 => ?_)
    · refine lv_iconst (v := nI 1) hx hb dX3_lag_22 (by decide) ?_
      refine lv_goto (tgt := 27) hx hb dX3_lag_23 (by decide) ?_
      refine lv_iconst (v := nI 0) hx hb dX3_lag_27 (by decide) ?_
      refine goVI0 hc (kX3_fails l D k q H.size tr ck hd po th we bu tg se gr ba tn sn un ow fi sz so wr dn ur dl sl le (nI 1) (nI 0)) (cwV 2 hts gX3_lag_X3_fails rfl rfl rfl (by decide +kernel) ⟨(Nat.le_of_ble_eq_true rfl), (Nat.le_of_ble_eq_true rfl)⟩) hP hD hK hS hA (ci := 3) (q0 := 0) rfl rfl rfl hl.1 rfl (Nat.le_of_ble_eq_true rfl) dX3_lag_28 (Nat.le_of_ble_eq_true rfl) (Nat.le_of_ble_eq_true rfl) (fun r9 B9 H locs hq hP hD hS => ?_)
      obtain ⟨hr9, rfl⟩ := hq
      subst hr9
      have hP : va_P D vwCl (MoW q k (flF (nI 1) (nI 0)) ck hd po th we bu tg se gr ba tn sn un ow fi sz so wr dn ur dl sl le) H := hP
      have hD : va_D A (MoW q k (flF (nI 1) (nI 0)) ck hd po th we bu tg se gr ba tn sn un ow fi sz so wr dn ur dl sl le) := hD
      rw [flF_10] at hP hD
      have hP : va_P D vwCl (MoW q k (nI 1) ck hd po th we bu tg se gr ba tn sn un ow fi sz so wr dn ur dl sl le) H := hP
      have hD : va_D A (MoW q k (nI 1) ck hd po th we bu tg se gr ba tn sn un ow fi sz so wr dn ur dl sl le) := hD
      refine lv_if_eq (tgt := 36) hx hb dX3_lag_31 (by decide) (fun c4 => False.elim (bI_0 c4 (by decide))) (fun c4 => ?_)
      refine lv_lconst (v := 0) hx hb dX3_lag_34 rfl ?_
      exact retL hc dX3_lag_35 hK hP hD hS (Or.inl ⟨fun h => bI_0 c3 (thB_isT.mpr h.2.1), rfl, rfl⟩) (Nat.le_of_ble_eq_true rfl) (Nat.le_of_ble_eq_true rfl)
    · have hyb := thB_isT.mp (bI_1 c3)
      refine lv_iload_n hx hb dX3_lag_17 rfl (lv_at hl 1 rfl) ?_
      refine lv_iload_n hx hb dX3_lag_18 rfl (lv_at hl 2 rfl) ?_
      refine lv_icmp_ne (tgt := 26) hx hb dX3_lag_19 (by decide) (fun c5 => ?_) (fun c5 => ?_)
      · obtain ⟨a, ha, rfl, hta⟩ := hxa
        obtain ⟨b, hb8, rfl, htb⟩ := hyb
        refine lv_iconst (v := nI 0) hx hb dX3_lag_26 (by decide) ?_
        refine lv_iconst (v := nI 0) hx hb dX3_lag_27 (by decide) ?_
        refine goVI0 hc (kX3_fails l D k q H.size tr ck hd po th we bu tg se gr ba tn sn un ow fi sz so wr dn ur dl sl le (nI 0) (nI 0)) (cwV 2 hts gX3_lag_X3_fails rfl rfl rfl (by decide +kernel) ⟨(Nat.le_of_ble_eq_true rfl), (Nat.le_of_ble_eq_true rfl)⟩) hP hD hK hS hA (ci := 3) (q0 := 0) rfl rfl rfl hl.1 rfl (Nat.le_of_ble_eq_true rfl) dX3_lag_28 (Nat.le_of_ble_eq_true rfl) (Nat.le_of_ble_eq_true rfl) (fun r9 B9 H locs hq hP hD hS => ?_)
        obtain ⟨hr9, rfl⟩ := hq
        subst hr9
        have hP : va_P D vwCl (MoW q k (flF (nI 0) (nI 0)) ck hd po th we bu tg se gr ba tn sn un ow fi sz so wr dn ur dl sl le) H := hP
        have hD : va_D A (MoW q k (flF (nI 0) (nI 0)) ck hd po th we bu tg se gr ba tn sn un ow fi sz so wr dn ur dl sl le) := hD
        rw [flF_00] at hP hD
        have hP : va_P D vwCl (MoW q k (nI 0) ck hd po th we bu tg se gr ba tn sn un ow fi sz so wr dn ur dl sl le) H := hP
        have hD : va_D A (MoW q k (nI 0) ck hd po th we bu tg se gr ba tn sn un ow fi sz so wr dn ur dl sl le) := hD
        refine lv_if_eq (tgt := 36) hx hb dX3_lag_31 (by decide) (fun c6 => ?_) (fun c6 => False.elim (bI_1 c6 ⟨by decide, by decide⟩))
        refine lv_aload_n hx hb dX3_lag_36 rfl (lv_at hl 0 rfl) ?_
        refine lv_iload_n hx hb dX3_lag_37 rfl (lv_at hl 1 rfl) ?_
        refine goVI0 hc (kX3_waiting l D k q H.size (nI 0) ck hd po th we bu tg se gr ba tn sn un ow fi sz so wr dn ur dl sl le (nI a) (htn)) (cwV 1 hts gX3_lag_X3_waiting rfl rfl rfl (by decide +kernel) ⟨(Nat.le_of_ble_eq_true rfl), (Nat.le_of_ble_eq_true rfl)⟩) hP hD hK hS hA (ci := 3) (q0 := 0) rfl rfl rfl hl.1 rfl (Nat.le_of_ble_eq_true rfl) dX3_lag_38 (Nat.le_of_ble_eq_true rfl) (Nat.le_of_ble_eq_true rfl) (fun r9 B9 H locs hq hP hD hS => ?_)
        obtain ⟨hr9, rfl⟩ := hq
        subst hr9
        have hP : va_P D vwCl (MoW q k (nI 0) ck hd po th we bu tg se gr ba tn sn un ow fi sz so wr dn ur dl sl le) H := hP
        have hD : va_D A (MoW q k (nI 0) ck hd po th we bu tg se gr ba tn sn un ow fi sz so wr dn ur dl sl le) := hD
        refine lv_if_eq (tgt := 52) hx hb dX3_lag_41 (by decide) (fun c7 => ?_) (fun c7 => ?_)
        · refine lv_lconst (v := 0) hx hb dX3_lag_52 rfl ?_
          exact retL hc dX3_lag_53 hK hP hD hS (Or.inr ⟨a, b, ha, hb8, rfl, rfl, hta, htb, c5, by rw [if_pos c7], rfl⟩) (Nat.le_of_ble_eq_true rfl) (Nat.le_of_ble_eq_true rfl)
        · refine lv_aload_n hx hb dX3_lag_44 rfl (lv_at hl 0 rfl) ?_
          refine lv_iload_n hx hb dX3_lag_45 rfl (lv_at hl 2 rfl) ?_
          refine goVI0 hc (kX3_waiting l D k q H.size (nI 0) ck hd po th we bu tg se gr ba tn sn un ow fi sz so wr dn ur dl sl le (nI b) (htn)) (cwV 1 hts gX3_lag_X3_waiting rfl rfl rfl (by decide +kernel) ⟨(Nat.le_of_ble_eq_true rfl), (Nat.le_of_ble_eq_true rfl)⟩) hP hD hK hS hA (ci := 3) (q0 := 0) rfl rfl rfl hl.1 rfl (Nat.le_of_ble_eq_true rfl) dX3_lag_46 (Nat.le_of_ble_eq_true rfl) (Nat.le_of_ble_eq_true rfl) (fun r9 B9 H locs hq hP hD hS => ?_)
          obtain ⟨hr9, rfl⟩ := hq
          subst hr9
          have hP : va_P D vwCl (MoW q k (nI 0) ck hd po th we bu tg se gr ba tn sn un ow fi sz so wr dn ur dl sl le) H := hP
          have hD : va_D A (MoW q k (nI 0) ck hd po th we bu tg se gr ba tn sn un ow fi sz so wr dn ur dl sl le) := hD
          refine lv_if_ne (tgt := 54) hx hb dX3_lag_49 (by decide) (fun c8 => ?_) (fun c8 => ?_)
          · refine lv_aload_n hx hb dX3_lag_54 rfl (lv_at hl 0 rfl) ?_
            refine va_get (D := D) (ci := 3) (v := .ref (q 6)) (C := RX3) (T := TX3) (N := 24) hx hb hts iwX3_lag_X3 hown hK hP 0 rfl rfl 9 (by decide) (hts (Cond.fieldLink RX3 27 "ShareDiskModel" "grown" "[J") mwX3_lag_0) (fun _ h9 => h9) rfl dX3_lag_55 ?_
            refine lv_iload_n hx hb dX3_lag_58 rfl (lv_at hl 1 rfl) ?_
            refine aJ hx hb hK hP 6 2 rfl rfl (ix8 (by omega)) dX3_lag_59 ?_
            refine lv_aload_n hx hb dX3_lag_60 rfl (lv_at hl 0 rfl) ?_
            refine va_get (D := D) (ci := 3) (v := .ref (q 7)) (C := RX3) (T := TX3) (N := 24) hx hb hts iwX3_lag_X3 hown hK hP 0 rfl rfl 10 (by decide) (hts (Cond.fieldLink RX3 30 "ShareDiskModel" "bases" "[J") mwX3_lag_1) (fun _ h9 => h9) rfl dX3_lag_61 ?_
            refine lv_bipush (v := nI 8) hx hb dX3_lag_64 (by decide) ?_
            refine lv_iload_n hx hb dX3_lag_66 rfl (lv_at hl 1 rfl) ?_
            refine nmul hx hb dX3_lag_67 ?_
            refine lv_iload_n hx hb dX3_lag_68 rfl (lv_at hl 2 rfl) ?_
            refine nadd hx hb dX3_lag_69 ?_
            refine aJ hx hb hK hP 7 2 rfl rfl (ix64 (by omega)) dX3_lag_70 ?_
            refine lv_lsub hx hb dX3_lag_71 ?_
            refine lv_aload_n hx hb dX3_lag_72 rfl (lv_at hl 0 rfl) ?_
            refine va_get (D := D) (ci := 3) (v := .ref (q 6)) (C := RX3) (T := TX3) (N := 24) hx hb hts iwX3_lag_X3 hown hK hP 0 rfl rfl 9 (by decide) (hts (Cond.fieldLink RX3 27 "ShareDiskModel" "grown" "[J") mwX3_lag_0) (fun _ h9 => h9) rfl dX3_lag_73 ?_
            refine lv_iload_n hx hb dX3_lag_76 rfl (lv_at hl 2 rfl) ?_
            refine aJ hx hb hK hP 6 2 rfl rfl (ix8 (by omega)) dX3_lag_77 ?_
            refine lv_aload_n hx hb dX3_lag_78 rfl (lv_at hl 0 rfl) ?_
            refine va_get (D := D) (ci := 3) (v := .ref (q 7)) (C := RX3) (T := TX3) (N := 24) hx hb hts iwX3_lag_X3 hown hK hP 0 rfl rfl 10 (by decide) (hts (Cond.fieldLink RX3 30 "ShareDiskModel" "bases" "[J") mwX3_lag_1) (fun _ h9 => h9) rfl dX3_lag_79 ?_
            refine lv_bipush (v := nI 8) hx hb dX3_lag_82 (by decide) ?_
            refine lv_iload_n hx hb dX3_lag_84 rfl (lv_at hl 2 rfl) ?_
            refine nmul hx hb dX3_lag_85 ?_
            refine lv_iload_n hx hb dX3_lag_86 rfl (lv_at hl 1 rfl) ?_
            refine nadd hx hb dX3_lag_87 ?_
            refine aJ hx hb hK hP 7 2 rfl rfl (ix64 (by omega)) dX3_lag_88 ?_
            refine lv_lsub hx hb dX3_lag_89 ?_
            refine lv_lsub hx hb dX3_lag_90 ?_
            exact retL hc dX3_lag_91 hK hP hD hS (Or.inr ⟨a, b, ha, hb8, rfl, rfl, hta, htb, c5, by rw [if_neg c7, if_neg c8], rfl⟩) (Nat.le_of_ble_eq_true rfl) (Nat.le_of_ble_eq_true rfl)
          · refine lv_lconst (v := 0) hx hb dX3_lag_52 rfl ?_
            exact retL hc dX3_lag_53 hK hP hD hS (Or.inr ⟨a, b, ha, hb8, rfl, rfl, hta, htb, c5, by rw [if_neg c7, if_pos c8], rfl⟩) (Nat.le_of_ble_eq_true rfl) (Nat.le_of_ble_eq_true rfl)
      · refine lv_iconst (v := nI 1) hx hb dX3_lag_22 (by decide) ?_
        refine lv_goto (tgt := 27) hx hb dX3_lag_23 (by decide) ?_
        refine lv_iconst (v := nI 0) hx hb dX3_lag_27 (by decide) ?_
        refine goVI0 hc (kX3_fails l D k q H.size tr ck hd po th we bu tg se gr ba tn sn un ow fi sz so wr dn ur dl sl le (nI 1) (nI 0)) (cwV 2 hts gX3_lag_X3_fails rfl rfl rfl (by decide +kernel) ⟨(Nat.le_of_ble_eq_true rfl), (Nat.le_of_ble_eq_true rfl)⟩) hP hD hK hS hA (ci := 3) (q0 := 0) rfl rfl rfl hl.1 rfl (Nat.le_of_ble_eq_true rfl) dX3_lag_28 (Nat.le_of_ble_eq_true rfl) (Nat.le_of_ble_eq_true rfl) (fun r9 B9 H locs hq hP hD hS => ?_)
        obtain ⟨hr9, rfl⟩ := hq
        subst hr9
        have hP : va_P D vwCl (MoW q k (flF (nI 1) (nI 0)) ck hd po th we bu tg se gr ba tn sn un ow fi sz so wr dn ur dl sl le) H := hP
        have hD : va_D A (MoW q k (flF (nI 1) (nI 0)) ck hd po th we bu tg se gr ba tn sn un ow fi sz so wr dn ur dl sl le) := hD
        rw [flF_10] at hP hD
        have hP : va_P D vwCl (MoW q k (nI 1) ck hd po th we bu tg se gr ba tn sn un ow fi sz so wr dn ur dl sl le) H := hP
        have hD : va_D A (MoW q k (nI 1) ck hd po th we bu tg se gr ba tn sn un ow fi sz so wr dn ur dl sl le) := hD
        refine lv_if_eq (tgt := 36) hx hb dX3_lag_31 (by decide) (fun c9 => False.elim (bI_0 c9 (by decide))) (fun c9 => ?_)
        refine lv_lconst (v := 0) hx hb dX3_lag_34 rfl ?_
        exact retL hc dX3_lag_35 hK hP hD hS (Or.inl ⟨fun h => h.2.2 c5, rfl, rfl⟩) (Nat.le_of_ble_eq_true rfl) (Nat.le_of_ble_eq_true rfl)
/-- count -/
def cmF (th dn ow : Nat → Int32) (se : Nat → Int64) (tn sn un : Nat) (hd : Int32) (po : Int64) (sl le x : Int32) : Int64 :=
  if x = nI 0 then hmL th 8 else if x = nI 1 then (nI tn - nI sn).toInt64 else if x = nI 2 then (nI sn).toInt64 else if x = nI 3 then (nI un).toInt64 else if x = nI 4 then hd.toInt64 else if x = nI 5 then po else if x = nI 6 then sl.toInt64 else if x = nI 7 then le.toInt64 else if inw x (nI 8) (nI 15) then se (x.toNatClampNeg - 8) else if inw x (nI 16) (nI 23) then (nI (wcN dn ow (nI (x.toNatClampNeg - 16)) tn)).toInt64 else (-1)
theorem mwX3_count_0 : Cond.fieldLink RX3 61 "ShareDiskModel" "thrown" "I" ∈ wsX3_count := by decide +kernel
theorem mwX3_count_1 : Cond.fieldLink RX3 7 "ShareDiskModel" "there" "[Z" ∈ wsX3_count := by decide +kernel
theorem mwX3_count_2 : Cond.fieldLink RX3 70 "ShareDiskModel" "tickets" "I" ∈ wsX3_count := by decide +kernel
theorem mwX3_count_3 : Cond.fieldLink RX3 124 "ShareDiskModel" "served" "I" ∈ wsX3_count := by decide +kernel
theorem mwX3_count_4 : Cond.fieldLink RX3 144 "ShareDiskModel" "urgents" "I" ∈ wsX3_count := by decide +kernel
theorem mwX3_count_5 : Cond.fieldLink RX3 120 "ShareDiskModel" "head" "I" ∈ wsX3_count := by decide +kernel
theorem mwX3_count_6 : Cond.fieldLink RX3 141 "ShareDiskModel" "passed" "J" ∈ wsX3_count := by decide +kernel
theorem mwX3_count_7 : Cond.fieldLink RX3 57 "ShareDiskModel" "slice" "I" ∈ wsX3_count := by decide +kernel
theorem mwX3_count_8 : Cond.fieldLink RX3 92 "ShareDiskModel" "left" "I" ∈ wsX3_count := by decide +kernel
theorem mwX3_count_9 : Cond.constantLong RX3 149 (8) ∈ wsX3_count := by decide +kernel
theorem mwX3_count_10 : Cond.constantLong RX3 151 (15) ∈ wsX3_count := by decide +kernel
theorem mwX3_count_11 : Cond.constantLong RX3 153 (16) ∈ wsX3_count := by decide +kernel
theorem mwX3_count_12 : Cond.constantLong RX3 155 (23) ∈ wsX3_count := by decide +kernel
theorem mwX3_count_13 : Cond.constantLong RX3 157 (-1) ∈ wsX3_count := by decide +kernel
theorem mwX3_count_14 : Cond.fieldLink RX3 24 "ShareDiskModel" "sectors" "[J" ∈ wsX3_count := by decide +kernel
theorem iwX3_count_X3 : ∀ w ∈ wsX30, w ∈ wsX3_count := by decide +kernel
set_option maxHeartbeats 4000000 in
set_option maxRecDepth 100000 in
theorem kX3_count (l : Launch) (D : va_G) (k : Nat → ClassId) (q : Nat → Nat) (zz : Nat) (tr : Int32) (ck : Int64) (hd : Int32) (po : Int64) (th we bu : Nat → Int32) (tg se gr ba : Nat → Int64) (tn sn un : Nat) (ow fi sz so wr dn ur : Nat → Int32) (dl : Nat → Int64) (sl le : Int32) (x : Int32) (htn : tn ≤ 500) : ML l yX3_count wsX3_count ({ frames := 1, cells := 0, slots := 0, locals := 25 } : Room) D k (MoW q k tr ck hd po th we bu tg se gr ba tn sn un ow fi sz so wr dn ur dl sl le) zz [.ref (q 0), .int x] (fun r9 w9 => r9 = (cmF th dn ow se tn sn un hd po sl le x) ∧ w9 = MoW q k (nI 0) ck hd po th we bu tg se gr ba tn sn un ow fi sz so wr dn ur dl sl le) 0 0 := by
  refine bodyOf (Qc := fun A => QL D k (fun r9 w9 => r9 = (cmF th dn ow se tn sn un hd po sl le x) ∧ w9 = MoW q k (nI 0) ck hd po th we bu tg se gr ba tn sn un ow fi sz so wr dn ur dl sl le) A) (cc := cX3_count) (maxL := 5) (ret := (some .long)) (by decide) rfl (Nat.le_of_ble_eq_true rfl) ?_
  intro p e s m below meth c A ls hc hA hK hP hD hS hl
  obtain ⟨hx, hb, hml, hr, hts, hown, hlocks, hin⟩ := (show _ from hc)
  have hl : lv_has ls 5 [(0, .ref (q 0)), (1, .int x)] := hl
  refine lv_aload_n hx hb dX3_count_0 rfl (lv_at hl 0 rfl) ?_
  refine lv_iconst (v := nI 0) hx hb dX3_count_1 (by decide) ?_
  refine va_put (D := D) (ci := 3) (v := .int (nI 0)) (ty := .int) (C := RX3) (T := TX3) (N := 24) hx hb hts iwX3_count_X3 tyX3 tyX3_ok nmX3 hown hK hP hD hS 0 rfl rfl 0 (by decide) (hts (Cond.fieldLink RX3 61 "ShareDiskModel" "thrown" "I") mwX3_count_0) (fun _ h9 => h9) rfl (by decide +kernel) rfl rfl (Nat.le_of_ble_eq_true rfl) dX3_count_2 (fun H locs hP hD hS => ?_)
  have hP : va_P D vwCl (MoW q k (nI 0) ck hd po th we bu tg se gr ba tn sn un ow fi sz so wr dn ur dl sl le) H := hP
  have hD : va_D A (MoW q k (nI 0) ck hd po th we bu tg se gr ba tn sn un ow fi sz so wr dn ur dl sl le) := hD
  refine lv_lconst (v := 0) hx hb dX3_count_5 rfl ?_
  refine lv_lstore_n (lv' := [(2, .long 0), (0, .ref (q 0)), (1, .int x)]) hx hb dX3_count_6 rfl hl (by decide) rfl (fun ls hl => ?_)
  refine lv_iload_n hx hb dX3_count_7 rfl (lv_at hl 2 rfl) ?_
  by_cases h0 : x = nI 0
  · subst h0
    refine lv_tableIn (off := 48) (tgt := 56) hx hb dX3_count_8 (by decide) (by decide) (by decide) (by decide) ?_
    refine lv_iconst (v := nI 0) hx hb dX3_count_56 (by decide) ?_
    refine lv_istore (lv' := [(4, .int (nI 0)), (2, .long 0), (0, .ref (q 0)), (1, .int (nI 0))]) hx hb dX3_count_57 hl (by decide) rfl (fun ls hl => ?_)
    have loop59 : ∀ (n : Nat) (i : Nat) (g : Int64), (i ≤ 8) → (g = hmL th i) → 8 - i < n → ∀ (H : Heap) (locs : List Loc) (ls : Array Slot), va_P D vwCl (MoW q k (nI 0) ck hd po th we bu tg se gr ba tn sn un ow fi sz so wr dn ur dl sl le) H → va_D A (MoW q k (nI 0) ck hd po th we bu tg se gr ba tn sn un ow fi sz so wr dn ur dl sl le) → va_S A s.heap H locs → lv_has ls 5 [(0, .ref (q 0)), (1, .int (nI 0)), (2, .long g), (4, .int (nI i))] → W p l e ({ frames := 1, cells := 0, slots := 0, locals := 25 } : Room) s m [.ref (q 0), .int (nI 0)].toArray below meth c H locs 0 0 (MQ below (QL D k (fun r9 w9 => r9 = (cmF th dn ow se tn sn un hd po sl le (nI 0)) ∧ w9 = MoW q k (nI 0) ck hd po th we bu tg se gr ba tn sn un ow fi sz so wr dn ur dl sl le) A) [.ref (q 0), .int (nI 0)].toArray s 0 0 A) (F0 m 59 ls []) := by
      intro n
      induction n with
      | zero => intro i g hi hg hn9; exact absurd hn9 (Nat.not_lt_zero _)
      | succ n ih =>
        intro i g hi hg hn9 H locs ls hP hD hS hl
        refine lv_iload hx hb dX3_count_59 (lv_at hl 3 rfl) ?_
        refine lv_bipush (v := nI 8) hx hb dX3_count_61 (by decide) ?_
        refine lv_icmp_ge (tgt := 90) hx hb dX3_count_63 (by decide) (fun c1 => ?_) (fun c1 => ?_)
        · have hi8 : i = 8 := lp_ge (by decide) hi c1
          refine lv_lload_n hx hb dX3_count_90 rfl (lv_at hl 2 rfl) ?_
          exact retL hc dX3_count_91 hK hP hD hS (⟨by rw [cmF, if_pos rfl, hg, hi8], rfl⟩) (Nat.le_of_ble_eq_true rfl) (Nat.le_of_ble_eq_true rfl)
        · have hi8 : i < 8 := lp_lt (by decide) hi c1
          refine lv_lload_n hx hb dX3_count_66 rfl (lv_at hl 2 rfl) ?_
          refine lv_aload_n hx hb dX3_count_67 rfl (lv_at hl 0 rfl) ?_
          refine va_get (D := D) (ci := 3) (v := .ref (q 1)) (C := RX3) (T := TX3) (N := 24) hx hb hts iwX3_count_X3 hown hK hP 0 rfl rfl 4 (by decide) (hts (Cond.fieldLink RX3 7 "ShareDiskModel" "there" "[Z") mwX3_count_1) (fun _ h9 => h9) rfl dX3_count_68 ?_
          refine lv_iload hx hb dX3_count_71 (lv_at hl 3 rfl) ?_
          refine aZ hx hb hK hP 1 0 rfl rfl (ix8 (by omega)) dX3_count_73 ?_
          refine lv_if_eq (tgt := 81) hx hb dX3_count_74 (by decide) (fun c2 => ?_) (fun c2 => ?_)
          · refine lv_lconst (v := 0) hx hb dX3_count_81 rfl ?_
            refine lv_ladd hx hb dX3_count_82 ?_
            refine lv_lstore_n (lv' := [(2, .long (g + 0)), (0, .ref (q 0)), (1, .int (nI 0)), (4, .int (nI i))]) hx hb dX3_count_83 rfl hl (by decide) rfl (fun ls hl => ?_)
            refine lv_iinc (v := nI (i + 1)) (lv' := [(4, .int (nI (i + 1))), (2, .long (g + 0)), (0, .ref (q 0)), (1, .int (nI 0))]) hx hb dX3_count_84 hl (k := 3) rfl (by rw [show Int32.ofInt 1 = nI 1 by decide, nI_add]) (by decide) rfl (fun ls hl => ?_)
            refine lv_goto (tgt := 59) hx hb dX3_count_87 (by decide) ?_
            exact ih (i + 1) _ (by omega) (by rw [hg, hmL, if_pos c2]) (by omega) _ _ _ hP hD hS (lv_sub hl [2, 3, 1, 0] rfl)
          · refine lv_lconst (v := 1) hx hb dX3_count_77 rfl ?_
            refine lv_goto (tgt := 82) hx hb dX3_count_78 (by decide) ?_
            refine lv_ladd hx hb dX3_count_82 ?_
            refine lv_lstore_n (lv' := [(2, .long (g + 1)), (0, .ref (q 0)), (1, .int (nI 0)), (4, .int (nI i))]) hx hb dX3_count_83 rfl hl (by decide) rfl (fun ls hl => ?_)
            refine lv_iinc (v := nI (i + 1)) (lv' := [(4, .int (nI (i + 1))), (2, .long (g + 1)), (0, .ref (q 0)), (1, .int (nI 0))]) hx hb dX3_count_84 hl (k := 3) rfl (by rw [show Int32.ofInt 1 = nI 1 by decide, nI_add]) (by decide) rfl (fun ls hl => ?_)
            refine lv_goto (tgt := 59) hx hb dX3_count_87 (by decide) ?_
            exact ih (i + 1) _ (by omega) (by rw [hg, hmL, if_neg c2]) (by omega) _ _ _ hP hD hS (lv_sub hl [2, 3, 1, 0] rfl)
    exact loop59 _ 0 _ (by omega) rfl (Nat.lt_succ_self _) _ _ _ hP hD hS (lv_sub hl [2, 3, 1, 0] rfl)
  by_cases h1 : x = nI 1
  · subst h1
    refine lv_tableIn (off := 84) (tgt := 92) hx hb dX3_count_8 (by decide) (by decide) (by decide) (by decide) ?_
    refine lv_aload_n hx hb dX3_count_92 rfl (lv_at hl 1 rfl) ?_
    refine va_get (D := D) (ci := 3) (v := .int (nI tn)) (C := RX3) (T := TX3) (N := 24) hx hb hts iwX3_count_X3 hown hK hP 0 rfl rfl 11 (by decide) (hts (Cond.fieldLink RX3 70 "ShareDiskModel" "tickets" "I") mwX3_count_2) (fun _ h9 => h9) rfl dX3_count_93 ?_
    refine lv_aload_n hx hb dX3_count_96 rfl (lv_at hl 1 rfl) ?_
    refine va_get (D := D) (ci := 3) (v := .int (nI sn)) (C := RX3) (T := TX3) (N := 24) hx hb hts iwX3_count_X3 hown hK hP 0 rfl rfl 12 (by decide) (hts (Cond.fieldLink RX3 124 "ShareDiskModel" "served" "I") mwX3_count_3) (fun _ h9 => h9) rfl dX3_count_97 ?_
    refine lv_isub hx hb dX3_count_100 ?_
    refine lv_i2l (v := ((nI tn) - (nI sn)).toInt64) hx hb dX3_count_101 rfl ?_
    exact retL hc dX3_count_102 hK hP hD hS (⟨by rw [cmF, if_neg (by decide), if_pos rfl], rfl⟩) (Nat.le_of_ble_eq_true rfl) (Nat.le_of_ble_eq_true rfl)
  by_cases h2 : x = nI 2
  · subst h2
    refine lv_tableIn (off := 95) (tgt := 103) hx hb dX3_count_8 (by decide) (by decide) (by decide) (by decide) ?_
    refine lv_aload_n hx hb dX3_count_103 rfl (lv_at hl 1 rfl) ?_
    refine va_get (D := D) (ci := 3) (v := .int (nI sn)) (C := RX3) (T := TX3) (N := 24) hx hb hts iwX3_count_X3 hown hK hP 0 rfl rfl 12 (by decide) (hts (Cond.fieldLink RX3 124 "ShareDiskModel" "served" "I") mwX3_count_3) (fun _ h9 => h9) rfl dX3_count_104 ?_
    refine lv_i2l (v := (nI sn).toInt64) hx hb dX3_count_107 rfl ?_
    exact retL hc dX3_count_108 hK hP hD hS (⟨by rw [cmF, if_neg (by decide), if_neg (by decide), if_pos rfl], rfl⟩) (Nat.le_of_ble_eq_true rfl) (Nat.le_of_ble_eq_true rfl)
  by_cases h3 : x = nI 3
  · subst h3
    refine lv_tableIn (off := 101) (tgt := 109) hx hb dX3_count_8 (by decide) (by decide) (by decide) (by decide) ?_
    refine lv_aload_n hx hb dX3_count_109 rfl (lv_at hl 1 rfl) ?_
    refine va_get (D := D) (ci := 3) (v := .int (nI un)) (C := RX3) (T := TX3) (N := 24) hx hb hts iwX3_count_X3 hown hK hP 0 rfl rfl 13 (by decide) (hts (Cond.fieldLink RX3 144 "ShareDiskModel" "urgents" "I") mwX3_count_4) (fun _ h9 => h9) rfl dX3_count_110 ?_
    refine lv_i2l (v := (nI un).toInt64) hx hb dX3_count_113 rfl ?_
    exact retL hc dX3_count_114 hK hP hD hS (⟨by rw [cmF, if_neg (by decide), if_neg (by decide), if_neg (by decide), if_pos rfl], rfl⟩) (Nat.le_of_ble_eq_true rfl) (Nat.le_of_ble_eq_true rfl)
  by_cases h4 : x = nI 4
  · subst h4
    refine lv_tableIn (off := 107) (tgt := 115) hx hb dX3_count_8 (by decide) (by decide) (by decide) (by decide) ?_
    refine lv_aload_n hx hb dX3_count_115 rfl (lv_at hl 1 rfl) ?_
    refine va_get (D := D) (ci := 3) (v := .int hd) (C := RX3) (T := TX3) (N := 24) hx hb hts iwX3_count_X3 hown hK hP 0 rfl rfl 2 (by decide) (hts (Cond.fieldLink RX3 120 "ShareDiskModel" "head" "I") mwX3_count_5) (fun _ h9 => h9) rfl dX3_count_116 ?_
    refine lv_i2l (v := hd.toInt64) hx hb dX3_count_119 rfl ?_
    exact retL hc dX3_count_120 hK hP hD hS (⟨by rw [cmF, if_neg (by decide), if_neg (by decide), if_neg (by decide), if_neg (by decide), if_pos rfl], rfl⟩) (Nat.le_of_ble_eq_true rfl) (Nat.le_of_ble_eq_true rfl)
  by_cases h5 : x = nI 5
  · subst h5
    refine lv_tableIn (off := 113) (tgt := 121) hx hb dX3_count_8 (by decide) (by decide) (by decide) (by decide) ?_
    refine lv_aload_n hx hb dX3_count_121 rfl (lv_at hl 1 rfl) ?_
    refine va_get (D := D) (ci := 3) (v := .long po) (C := RX3) (T := TX3) (N := 24) hx hb hts iwX3_count_X3 hown hK hP 0 rfl rfl 3 (by decide) (hts (Cond.fieldLink RX3 141 "ShareDiskModel" "passed" "J") mwX3_count_6) (fun _ h9 => h9) rfl dX3_count_122 ?_
    exact retL hc dX3_count_125 hK hP hD hS (⟨by rw [cmF, if_neg (by decide), if_neg (by decide), if_neg (by decide), if_neg (by decide), if_neg (by decide), if_pos rfl], rfl⟩) (Nat.le_of_ble_eq_true rfl) (Nat.le_of_ble_eq_true rfl)
  by_cases h6 : x = nI 6
  · subst h6
    refine lv_tableIn (off := 118) (tgt := 126) hx hb dX3_count_8 (by decide) (by decide) (by decide) (by decide) ?_
    refine lv_aload_n hx hb dX3_count_126 rfl (lv_at hl 1 rfl) ?_
    refine va_get (D := D) (ci := 3) (v := .int sl) (C := RX3) (T := TX3) (N := 24) hx hb hts iwX3_count_X3 hown hK hP 0 rfl rfl 22 (by decide) (hts (Cond.fieldLink RX3 57 "ShareDiskModel" "slice" "I") mwX3_count_7) (fun _ h9 => h9) rfl dX3_count_127 ?_
    refine lv_i2l (v := sl.toInt64) hx hb dX3_count_130 rfl ?_
    exact retL hc dX3_count_131 hK hP hD hS (⟨by rw [cmF, if_neg (by decide), if_neg (by decide), if_neg (by decide), if_neg (by decide), if_neg (by decide), if_neg (by decide), if_pos rfl], rfl⟩) (Nat.le_of_ble_eq_true rfl) (Nat.le_of_ble_eq_true rfl)
  by_cases h7 : x = nI 7
  · subst h7
    refine lv_tableIn (off := 124) (tgt := 132) hx hb dX3_count_8 (by decide) (by decide) (by decide) (by decide) ?_
    refine lv_aload_n hx hb dX3_count_132 rfl (lv_at hl 1 rfl) ?_
    refine va_get (D := D) (ci := 3) (v := .int le) (C := RX3) (T := TX3) (N := 24) hx hb hts iwX3_count_X3 hown hK hP 0 rfl rfl 23 (by decide) (hts (Cond.fieldLink RX3 92 "ShareDiskModel" "left" "I") mwX3_count_8) (fun _ h9 => h9) rfl dX3_count_133 ?_
    refine lv_i2l (v := le.toInt64) hx hb dX3_count_136 rfl ?_
    exact retL hc dX3_count_137 hK hP hD hS (⟨by rw [cmF, if_neg (by decide), if_neg (by decide), if_neg (by decide), if_neg (by decide), if_neg (by decide), if_neg (by decide), if_neg (by decide), if_pos rfl], rfl⟩) (Nat.le_of_ble_eq_true rfl) (Nat.le_of_ble_eq_true rfl)
  refine lv_tableOut (tgt := 138) hx hb dX3_count_8 (tsw_out h0 h1 h2 h3 h4 h5 h6 h7) (by decide) ?_
  refine lv_iload_n hx hb dX3_count_138 rfl (lv_at hl 2 rfl) ?_
  refine lv_i2l (v := x.toInt64) hx hb dX3_count_139 rfl ?_
  refine lv_ldc2 (v := (8)) hx hb hown (hts (.constantLong RX3 149 (8)) mwX3_count_9) dX3_count_140 ?_
  refine lv_ldc2 (v := (15)) hx hb hown (hts (.constantLong RX3 151 (15)) mwX3_count_10) dX3_count_143 ?_
  refine goSI hc (kX3_in l D k H.size x.toInt64 (8) (15)) (va_cwS 3 hts gX3_count_X3_in rfl rfl rfl (by decide +kernel) ⟨(Nat.le_of_ble_eq_true rfl), (Nat.le_of_ble_eq_true rfl)⟩) hP hD hK hS hA rfl hl.1 rfl (Nat.le_of_ble_eq_true rfl) dX3_count_146 (Nat.le_of_ble_eq_true rfl) (Nat.le_of_ble_eq_true rfl) (fun r9 B9 H locs hq hP hD hS => ?_)
  obtain ⟨hr9, -⟩ := hq
  subst hr9
  have hP : va_P D vwCl (MoW q k (nI 0) ck hd po th we bu tg se gr ba tn sn un ow fi sz so wr dn ur dl sl le) H := hP
  have hD : va_D A (MoW q k (nI 0) ck hd po th we bu tg se gr ba tn sn un ow fi sz so wr dn ur dl sl le) := hD
  refine lv_if_eq (tgt := 162) hx hb dX3_count_149 (by decide) (fun c3 => ?_) (fun c3 => ?_)
  · have hn8 := fun h => bI_0 c3 ((inL (a := 8) (b := 15) (by decide) (by decide) (by decide +kernel) (by decide +kernel)).mpr h)
    refine lv_iload_n hx hb dX3_count_162 rfl (lv_at hl 2 rfl) ?_
    refine lv_i2l (v := x.toInt64) hx hb dX3_count_163 rfl ?_
    refine lv_ldc2 (v := (16)) hx hb hown (hts (.constantLong RX3 153 (16)) mwX3_count_11) dX3_count_164 ?_
    refine lv_ldc2 (v := (23)) hx hb hown (hts (.constantLong RX3 155 (23)) mwX3_count_12) dX3_count_167 ?_
    refine goSI hc (kX3_in l D k H.size x.toInt64 (16) (23)) (va_cwS 3 hts gX3_count_X3_in rfl rfl rfl (by decide +kernel) ⟨(Nat.le_of_ble_eq_true rfl), (Nat.le_of_ble_eq_true rfl)⟩) hP hD hK hS hA rfl hl.1 rfl (Nat.le_of_ble_eq_true rfl) dX3_count_170 (Nat.le_of_ble_eq_true rfl) (Nat.le_of_ble_eq_true rfl) (fun r9 B9 H locs hq hP hD hS => ?_)
    obtain ⟨hr9, -⟩ := hq
    subst hr9
    have hP : va_P D vwCl (MoW q k (nI 0) ck hd po th we bu tg se gr ba tn sn un ow fi sz so wr dn ur dl sl le) H := hP
    have hD : va_D A (MoW q k (nI 0) ck hd po th we bu tg se gr ba tn sn un ow fi sz so wr dn ur dl sl le) := hD
    refine lv_if_eq (tgt := 188) hx hb dX3_count_173 (by decide) (fun c4 => ?_) (fun c4 => ?_)
    · have hn16 := fun h => bI_0 c4 ((inL (a := 16) (b := 23) (by decide) (by decide) (by decide +kernel) (by decide +kernel)).mpr h)
      refine lv_ldc2 (v := (-1)) hx hb hown (hts (.constantLong RX3 157 (-1)) mwX3_count_13) dX3_count_188 ?_
      exact retL hc dX3_count_191 hK hP hD hS (⟨by rw [cmF, if_neg h0, if_neg h1, if_neg h2, if_neg h3, if_neg h4, if_neg h5, if_neg h6, if_neg h7, if_neg hn8, if_neg hn16], rfl⟩) (Nat.le_of_ble_eq_true rfl) (Nat.le_of_ble_eq_true rfl)
    · have hi9 := (inL (a := 16) (b := 23) (by decide) (by decide) (by decide +kernel) (by decide +kernel)).mp (bI_1 c4)
      obtain ⟨j, hj1, hj2, rfl⟩ := ofWd hi9 (by decide) (by decide)
      refine lv_aload_n hx hb dX3_count_176 rfl (lv_at hl 1 rfl) ?_
      refine lv_iload_n hx hb dX3_count_177 rfl (lv_at hl 2 rfl) ?_
      refine lv_bipush (v := nI 16) hx hb dX3_count_178 (by decide) ?_
      refine lv_isub hx hb dX3_count_180 ?_
      refine lv_topi (fun v ev => ?_)
      obtain rfl : v = nI (j - 16) := ev.trans (pk_sub hj1)
      refine goVI0 hc (kX3_waiting l D k q H.size (nI 0) ck hd po th we bu tg se gr ba tn sn un ow fi sz so wr dn ur dl sl le (nI (j - 16)) (htn)) (cwV 1 hts gX3_count_X3_waiting rfl rfl rfl (by decide +kernel) ⟨(Nat.le_of_ble_eq_true rfl), (Nat.le_of_ble_eq_true rfl)⟩) hP hD hK hS hA (ci := 3) (q0 := 0) rfl rfl rfl hl.1 rfl (Nat.le_of_ble_eq_true rfl) dX3_count_181 (Nat.le_of_ble_eq_true rfl) (Nat.le_of_ble_eq_true rfl) (fun r9 B9 H locs hq hP hD hS => ?_)
      obtain ⟨hr9, rfl⟩ := hq
      subst hr9
      have hP : va_P D vwCl (MoW q k (nI 0) ck hd po th we bu tg se gr ba tn sn un ow fi sz so wr dn ur dl sl le) H := hP
      have hD : va_D A (MoW q k (nI 0) ck hd po th we bu tg se gr ba tn sn un ow fi sz so wr dn ur dl sl le) := hD
      refine lv_i2l (v := (nI (wcN dn ow (nI (j - 16)) tn)).toInt64) hx hb dX3_count_184 rfl ?_
      refine lv_goto (tgt := 191) hx hb dX3_count_185 (by decide) ?_
      exact retL hc dX3_count_191 hK hP hD hS (⟨by rw [cmF, if_neg h0, if_neg h1, if_neg h2, if_neg h3, if_neg h4, if_neg h5, if_neg h6, if_neg h7, if_neg hn8, if_pos hi9, nI_clamp (by omega)], rfl⟩) (Nat.le_of_ble_eq_true rfl) (Nat.le_of_ble_eq_true rfl)
  · have hi9 := (inL (a := 8) (b := 15) (by decide) (by decide) (by decide +kernel) (by decide +kernel)).mp (bI_1 c3)
    obtain ⟨j, hj1, hj2, rfl⟩ := ofWd hi9 (by decide) (by decide)
    refine lv_aload_n hx hb dX3_count_152 rfl (lv_at hl 1 rfl) ?_
    refine va_get (D := D) (ci := 3) (v := .ref (q 5)) (C := RX3) (T := TX3) (N := 24) hx hb hts iwX3_count_X3 hown hK hP 0 rfl rfl 8 (by decide) (hts (Cond.fieldLink RX3 24 "ShareDiskModel" "sectors" "[J") mwX3_count_14) (fun _ h9 => h9) rfl dX3_count_153 ?_
    refine lv_iload_n hx hb dX3_count_156 rfl (lv_at hl 2 rfl) ?_
    refine lv_bipush (v := nI 8) hx hb dX3_count_157 (by decide) ?_
    refine lv_isub hx hb dX3_count_159 ?_
    refine lv_topi (fun v ev => ?_)
    obtain rfl : v = nI (j - 8) := ev.trans (pk_sub hj1)
    refine aJ hx hb hK hP 5 2 rfl rfl (ix8 (by omega)) dX3_count_160 ?_
    exact retL hc dX3_count_161 hK hP hD hS (⟨by rw [cmF, if_neg h0, if_neg h1, if_neg h2, if_neg h3, if_neg h4, if_neg h5, if_neg h6, if_neg h7, if_pos hi9, nI_clamp (by omega)], rfl⟩) (Nat.le_of_ble_eq_true rfl) (Nat.le_of_ble_eq_true rfl)
