/-! The law's cases. -/
abbrev LA (s : State) : Nat → Prop := fun q => s.heap.size ≤ q
def LX (p : Program) (l : Launch) (s : State) (m : MethodId) (meth : Method) (c : Code) (D : va_G) (k : Nat → ClassId) (b L : Nat) (xs : Nat → Int32) : Prop :=
  CX p s m meth c cL_law 8 ret wsL_law [.ref b] RL meth.name ∧ va_K D vwCl (kT k) s ∧ ZZ (LA s) s s.heap ∧ NC s ∧ va_X b L xs s s.heap ∧ b < s.heap.size ∧ L ≤ 3072 ∧ l.stackTraces = false
def LPs (D : va_G) (k : Nat → ClassId) (s : State) (d ob : Nat) (cq rq mq : Nat → Nat) (b i : Nat) (H : Heap) (locs : List Loc) (ls : Array Slot) : Prop :=
  ∃ (tr : Int32) (wC wM : va_W) (ov : Nat → Int64), INV d cq rq mq k tr wC wM ∧ va_P D vwCl (oc ob k ov :: (wC ++ wM)) H ∧ va_D (LA s) (oc ob k ov :: (wC ++ wM)) ∧ va_S (LA s) s.heap H locs ∧ lv_has ls 8 [(0, .ref b), (1, .ref d), (2, .ref (mq 0)), (3, .ref ob), (4, .int (nI i))]
def KC (p : Program) (l : Launch) (e : Env) (s : State) (m : MethodId) (below : List Frame) (meth : Method) (c : Code) (Z : State → Prop) (D : va_G) (k : Nat → ClassId) (d ob : Nat) (cq rq mq : Nat → Nat) (b i cells slots : Nat) : Prop :=
  ∀ (H : Heap) (locs : List Loc) (ls : Array Slot), LPs D k s d ob cq rq mq b i H locs ls → W p l e room_1 s m [Value.ref b].toArray below meth c H locs cells slots Z (F0 m 609 ls [])
theorem INV_m0 {d : Nat} {cq rq mq : Nat → Nat} {k : Nat → ClassId} {tr : Int32} {wC wM : va_W} (h : INV d cq rq mq k tr wC wM) : ∃ fs, wM[0]? = some (mq 0, .inr (3, fs)) := by
  obtain ⟨ck, hd, po, st, sl, le, th, co, bu, tg, wa, se, ld, ow, wr, fi, sz, dl, wt, bl, sh, so, tn, sn, un, we, tg', se', gr, ba, dn, ur, rfl, rfl, -⟩ := h
  exact ⟨_, rfl⟩
theorem INV_thrown (l : Launch) (D : va_G) {d : Nat} {cq rq mq : Nat → Nat} {k : Nat → ClassId} {tr : Int32} {wC wM : va_W} (h : INV d cq rq mq k tr wC wM) (zz : Nat) : MI l yX3_thrown wsX3_thrown ({ frames := 0, cells := 0, slots := 0, locals := 0 } : Room) D k wM zz [.ref (mq 0)] (fun r9 w9 => r9 = tr ∧ w9 = wM) 0 0 := by
  obtain ⟨ck, hd, po, st, sl, le, th, co, bu, tg, wa, se, ld, ow, wr, fi, sz, dl, wt, bl, sh, so, tn, sn, un, we, tg', se', gr, ba, dn, ur, rfl, rfl, -⟩ := h
  exact kX3_thrown l D k mq zz tr ck hd po th we bu tg' se' gr ba tn sn un ow fi sz so wr dn ur dl sl le
section SCR
variable {p : Program} {l : Launch} {e : Env} {R : Room} {s : State} {m : MethodId} {args : Array Value} {below : List Frame} {meth : Method} {c : Code} {H : Heap} {locs : List Loc} {cells slots : Nat} {Q : State → Prop}
variable {cc : ByteArray} {pc : Nat} {ls : Array Slot} {rest : List Value} {b L : Nat} {xs : Nat → Int32}
theorem scr (hx : p.tables.exec = Jvm.exec) (hb : c.code = cc) (hX : va_X b L xs s s.heap) (hbl : b < s.heap.size) (hS : va_S (LA s) s.heap H locs) (hL : L ≤ 3072) {j : Nat} (hj : j < L) (hdg : decode cc pc = .ok (.iaload, 1))
    (kk : W p l e R s m args below meth c H locs cells slots Q (F0 m (pc + 1) ls (.int (xs j) :: rest))) : W p l e R s m args below meth c H locs cells slots Q (F0 m pc ls (.int (nI j) :: .ref b :: rest)) :=
  va_sld hx hb hX hbl (fun q => absurd hbl (Nat.not_lt.mpr q)) hS (i := nI j) (vp_in_nI hj (by omega)) hdg (by rw [nI_clamp (by omega)]; exact kk)
end SCR
section LAW
variable {p : Program} {l : Launch} {e : Env} {s : State} {m : MethodId} {below : List Frame} {meth : Method} {c : Code} {Z : State → Prop} {D : va_G} {k : Nat → ClassId} {b L i : Nat} {xs : Nat → Int32} {d ob : Nat} {cq rq mq : Nat → Nat} {cells slots : Nat}
set_option maxHeartbeats 4000000 in
set_option maxRecDepth 100000 in
theorem st_client (hX : LX p l s m meth c D k b L xs) (hi : i + 6 ≤ L) (hcb : cells + 3 ≤ room_1.cells) (hsb : slots + 18 ≤ room_1.slots) (kk : KC p l e s m below meth c Z D k d ob cq rq mq b i (cells + 3) (slots + 18)) (H : Heap) (locs : List Loc) (ls : Array Slot) (h : LPs D k s d ob cq rq mq b i H locs ls) : W p l e room_1 s m [Value.ref b].toArray below meth c H locs cells slots Z (F0 m 96 ls []) := by
  obtain ⟨hc, hK, hZ, hN, hXs, hbl, hL, hl0⟩ := hX
  obtain ⟨hx, hb, hml, hr, hts, hown, hlocks, hin⟩ := (show _ from hc)
  have hA : ∀ q, s.heap.size ≤ q → LA s q := fun q h => h
  obtain ⟨tr, wC, wM, ov, hI, hP, hD, hS, hl⟩ := h
  obtain ⟨ck, hd, po, st, sl, le, th, co, bu, tg, wa, se, ld, ow, wr, fi, sz, dl, wt, bl, sh, so, tn, sn, un, we, tg', se', gr, ba, dn, ur, rfl, rfl, R, J, HH⟩ := hI
  have hsn : sn ≤ tn := by rw [R.2.1]; exact dcN_le dn tn
  have hsn5 : sn ≤ 500 := Nat.le_trans hsn R.1
  refine lv_aload_n hx hb dL_law_96 rfl (lv_at hl 1 rfl) ?_
  refine lv_aload_n hx hb dL_law_97 rfl (lv_at hl 0 rfl) ?_
  refine lv_iload hx hb dL_law_98 (lv_at hl 4 rfl) ?_
  refine lv_iconst (v := nI 1) hx hb dL_law_100 (by decide) ?_
  refine nadd hx hb dL_law_101 ?_
  refine scr hx hb hXs hbl hS hL (j := i + 1) (by omega) dL_law_102 ?_
  refine lv_aload_n hx hb dL_law_103 rfl (lv_at hl 0 rfl) ?_
  refine lv_iload hx hb dL_law_104 (lv_at hl 4 rfl) ?_
  refine lv_iconst (v := nI 2) hx hb dL_law_106 (by decide) ?_
  refine nadd hx hb dL_law_107 ?_
  refine scr hx hb hXs hbl hS hL (j := i + 2) (by omega) dL_law_108 ?_
  refine lv_aload_n hx hb dL_law_109 rfl (lv_at hl 0 rfl) ?_
  refine lv_iload hx hb dL_law_110 (lv_at hl 4 rfl) ?_
  refine lv_iconst (v := nI 3) hx hb dL_law_112 (by decide) ?_
  refine nadd hx hb dL_law_113 ?_
  refine scr hx hb hXs hbl hS hL (j := i + 3) (by omega) dL_law_114 ?_
  refine goH (X := [oc ob k ov]) (B := DkW d (cq 0) (rq 0) ck hd po st sl le ++ (ClW cq k th co bu tg wa se ld ++ RqW rq k ow wr fi sz dl wt bl sh so tn sn un)) (Y := MoW mq k tr ck hd po th we bu tg' se' gr ba tn sn un ow fi sz so wr dn ur dl sl le) hc (kL_client rfl (fun z9 => kX2_client l D k d cq rq z9 ck hd po st sl le th co bu tg wa se ld ow wr fi sz dl wt bl sh so tn sn un (xs (i + 1)) (xs (i + 2)) (xs (i + 3)) J.1 hl0) (fun E w h => h.1) H.size) (vx_cwSW 4 hts gL_law_L_client rfl rfl rfl (by decide +kernel) ⟨(Nat.le_of_ble_eq_true rfl), (Nat.le_of_ble_eq_true rfl)⟩) hP hD hK hZ hN hS hA rfl hl.1 rfl (Nat.le_of_ble_eq_true rfl) dL_law_115 (by omega) (by omega) (fun r9 B9 H locs hq hP hD hS => ?_)
  obtain ⟨w2, rfl⟩ : ∃ z, z = B9 := ⟨_, rfl⟩
  have hP : va_P D vwCl (oc ob k ov :: (w2 ++ MoW mq k tr ck hd po th we bu tg' se' gr ba tn sn un ow fi sz so wr dn ur dl sl le)) H := hP
  have hD : va_D (LA s) (oc ob k ov :: (w2 ++ MoW mq k tr ck hd po th we bu tg' se' gr ba tn sn un ow fi sz so wr dn ur dl sl le)) := hD
  refine lv_istore (lv' := [(5, .int r9), (0, .ref b), (1, .ref d), (2, .ref (mq 0)), (3, .ref ob), (4, .int (nI i))]) hx hb dL_law_118 hl (by decide) rfl (fun ls hl => ?_)
  refine lv_aload_n hx hb dL_law_120 rfl (lv_at hl 3 rfl) ?_
  refine lv_aload_n hx hb dL_law_121 rfl (lv_at hl 1 rfl) ?_
  refine lv_iload hx hb dL_law_122 (lv_at hl 5 rfl) ?_
  refine lv_iconst (v := nI 1) hx hb dL_law_124 (by decide) ?_
  refine nadd hx hb dL_law_125 ?_
  refine scr hx hb hXs hbl hS hL (j := i + 1) (by omega) dL_law_126 ?_
  refine lv_aload_n hx hb dL_law_127 rfl (lv_at hl 1 rfl) ?_
  refine lv_iload hx hb dL_law_128 (lv_at hl 5 rfl) ?_
  refine lv_iconst (v := nI 2) hx hb dL_law_130 (by decide) ?_
  refine nadd hx hb dL_law_131 ?_
  refine scr hx hb hXs hbl hS hL (j := i + 2) (by omega) dL_law_132 ?_
  refine lv_aload_n hx hb dL_law_133 rfl (lv_at hl 1 rfl) ?_
  refine lv_iload hx hb dL_law_134 (lv_at hl 5 rfl) ?_
  refine lv_iconst (v := nI 3) hx hb dL_law_136 (by decide) ?_
  refine nadd hx hb dL_law_137 ?_
  refine scr hx hb hXs hbl hS hL (j := i + 3) (by omega) dL_law_138 ?_
  refine goVV2 (X := [oc ob k ov]) (X2 := w2) (B := MoW mq k tr ck hd po th we bu tg' se' gr ba tn sn un ow fi sz so wr dn ur dl sl le) hc (kX3_client l D k mq H.size tr ck hd po th we bu tg' se' gr ba tn sn un ow fi sz so wr dn ur dl sl le (xs (i + 1)) (xs (i + 2)) (xs (i + 3)) ) (cwV 3 hts gL_law_X3_client rfl rfl rfl (by decide +kernel) ⟨(Nat.le_of_ble_eq_true rfl), (Nat.le_of_ble_eq_true rfl)⟩) hP hD hK hS hA (ci := 3) (q0 := 0) rfl rfl rfl hl.1 rfl (Nat.le_of_ble_eq_true rfl) dL_law_139 (by omega) (by omega) (fun wM2 H locs hm hP hD hS => ?_)
  have hP : va_P D vwCl (oc ob k ov :: (w2 ++ wM2)) H := hP
  have hD : va_D (LA s) (oc ob k ov :: (w2 ++ wM2)) := hD
  have hI2 : INV d cq rq mq k r9 w2 wM2 ∧ True := by
    rcases hq with ⟨rfl, hq⟩ | ⟨rfl, hq⟩
    · exact ⟨op_client R J HH hq hm, trivial⟩
    · exact ⟨op_client_x R J HH hq hm, trivial⟩
  refine lv_aload_n hx hb dL_law_142 rfl (lv_at hl 3 rfl) ?_
  obtain ⟨fs9, hfs9⟩ := INV_m0 hI2.1
  refine goVI2 (X := [oc ob k ov]) (X2 := w2) (B := wM2) hc (INV_thrown l D hI2.1 H.size) (cwV 0 hts gL_law_X3_thrown rfl rfl rfl (by decide +kernel) ⟨(Nat.le_of_ble_eq_true rfl), (Nat.le_of_ble_eq_true rfl)⟩) hP hD hK hS hA (ci := 3) (q0 := 0) rfl hfs9 rfl hl.1 rfl (Nat.le_of_ble_eq_true rfl) dL_law_143 (by omega) (by omega) (fun t9 B9 H locs ht9 hP hD hS => ?_)
  rw [ht9.2] at hP hD
  rw [ht9.1]
  have hP : va_P D vwCl (oc ob k ov :: (w2 ++ wM2)) H := hP
  have hD : va_D (LA s) (oc ob k ov :: (w2 ++ wM2)) := hD
  refine lv_iload hx hb dL_law_146 (lv_at hl 0 rfl) ?_
  refine lv_icmp_eq (tgt := 153) hx hb dL_law_148 (by decide) (fun _ => ?_) (fun c9 => absurd rfl c9)
  refine lv_goto (tgt := 609) hx hb dL_law_153 (by decide) ?_
  exact W.widen (k := cells + 3) (n := slots + 18) (by omega) (by omega) (kk H locs ls ⟨_, _, _, _, hI2.1, hP, hD, hS, lv_sub hl [1, 2, 3, 4, 5] rfl⟩)
set_option maxHeartbeats 4000000 in
set_option maxRecDepth 100000 in
theorem st_gone (hX : LX p l s m meth c D k b L xs) (hi : i + 6 ≤ L) (hcb : cells + 3 ≤ room_1.cells) (hsb : slots + 18 ≤ room_1.slots) (kk : KC p l e s m below meth c Z D k d ob cq rq mq b i (cells + 3) (slots + 18)) (H : Heap) (locs : List Loc) (ls : Array Slot) (h : LPs D k s d ob cq rq mq b i H locs ls) : W p l e room_1 s m [Value.ref b].toArray below meth c H locs cells slots Z (F0 m 156 ls []) := by
  obtain ⟨hc, hK, hZ, hN, hXs, hbl, hL, hl0⟩ := hX
  obtain ⟨hx, hb, hml, hr, hts, hown, hlocks, hin⟩ := (show _ from hc)
  have hA : ∀ q, s.heap.size ≤ q → LA s q := fun q h => h
  obtain ⟨tr, wC, wM, ov, hI, hP, hD, hS, hl⟩ := h
  obtain ⟨ck, hd, po, st, sl, le, th, co, bu, tg, wa, se, ld, ow, wr, fi, sz, dl, wt, bl, sh, so, tn, sn, un, we, tg', se', gr, ba, dn, ur, rfl, rfl, R, J, HH⟩ := hI
  have hsn : sn ≤ tn := by rw [R.2.1]; exact dcN_le dn tn
  have hsn5 : sn ≤ 500 := Nat.le_trans hsn R.1
  refine lv_aload_n hx hb dL_law_156 rfl (lv_at hl 1 rfl) ?_
  refine lv_aload_n hx hb dL_law_157 rfl (lv_at hl 0 rfl) ?_
  refine lv_iload hx hb dL_law_158 (lv_at hl 4 rfl) ?_
  refine lv_iconst (v := nI 1) hx hb dL_law_160 (by decide) ?_
  refine nadd hx hb dL_law_161 ?_
  refine scr hx hb hXs hbl hS hL (j := i + 1) (by omega) dL_law_162 ?_
  refine goH (X := [oc ob k ov]) (B := DkW d (cq 0) (rq 0) ck hd po st sl le ++ (ClW cq k th co bu tg wa se ld ++ RqW rq k ow wr fi sz dl wt bl sh so tn sn un)) (Y := MoW mq k tr ck hd po th we bu tg' se' gr ba tn sn un ow fi sz so wr dn ur dl sl le) hc (kL_gone rfl (fun z9 => kX2_gone l D k d cq rq z9 ck hd po st sl le th co bu tg wa se ld ow wr fi sz dl wt bl sh so tn sn un (xs (i + 1)) J.1 hl0) (fun E w h => h.2.elim (fun q => Or.inl q.1) (fun q => Or.inr q.1)) H.size) (vx_cwSW 2 hts gL_law_L_gone rfl rfl rfl (by decide +kernel) ⟨(Nat.le_of_ble_eq_true rfl), (Nat.le_of_ble_eq_true rfl)⟩) hP hD hK hZ hN hS hA rfl hl.1 rfl (Nat.le_of_ble_eq_true rfl) dL_law_163 (by omega) (by omega) (fun r9 B9 H locs hq hP hD hS => ?_)
  obtain ⟨w2, rfl⟩ : ∃ z, z = B9 := ⟨_, rfl⟩
  have hP : va_P D vwCl (oc ob k ov :: (w2 ++ MoW mq k tr ck hd po th we bu tg' se' gr ba tn sn un ow fi sz so wr dn ur dl sl le)) H := hP
  have hD : va_D (LA s) (oc ob k ov :: (w2 ++ MoW mq k tr ck hd po th we bu tg' se' gr ba tn sn un ow fi sz so wr dn ur dl sl le)) := hD
  refine lv_istore (lv' := [(5, .int r9), (0, .ref b), (1, .ref d), (2, .ref (mq 0)), (3, .ref ob), (4, .int (nI i))]) hx hb dL_law_166 hl (by decide) rfl (fun ls hl => ?_)
  refine lv_aload_n hx hb dL_law_168 rfl (lv_at hl 3 rfl) ?_
  refine lv_aload_n hx hb dL_law_169 rfl (lv_at hl 1 rfl) ?_
  refine lv_iload hx hb dL_law_170 (lv_at hl 5 rfl) ?_
  refine lv_iconst (v := nI 1) hx hb dL_law_172 (by decide) ?_
  refine nadd hx hb dL_law_173 ?_
  refine scr hx hb hXs hbl hS hL (j := i + 1) (by omega) dL_law_174 ?_
  refine goVV2 (X := [oc ob k ov]) (X2 := w2) (B := MoW mq k tr ck hd po th we bu tg' se' gr ba tn sn un ow fi sz so wr dn ur dl sl le) hc (kX3_gone l D k mq H.size tr ck hd po th we bu tg' se' gr ba tn sn un ow fi sz so wr dn ur dl sl le (xs (i + 1)) R.1) (cwV 1 hts gL_law_X3_gone rfl rfl rfl (by decide +kernel) ⟨(Nat.le_of_ble_eq_true rfl), (Nat.le_of_ble_eq_true rfl)⟩) hP hD hK hS hA (ci := 3) (q0 := 0) rfl rfl rfl hl.1 rfl (Nat.le_of_ble_eq_true rfl) dL_law_175 (by omega) (by omega) (fun wM2 H locs hm hP hD hS => ?_)
  have hP : va_P D vwCl (oc ob k ov :: (w2 ++ wM2)) H := hP
  have hD : va_D (LA s) (oc ob k ov :: (w2 ++ wM2)) := hD
  have hI2 : INV d cq rq mq k r9 w2 wM2 ∧ True := by
    rcases hq with ⟨rfl, hq⟩ | ⟨rfl, hq⟩ | ⟨rfl, hq⟩
    · exact ⟨op_gone R J HH hq hm, trivial⟩
    · rcases op_gone_x R J HH hq hm with ⟨-, q⟩ | ⟨q, -⟩
      · exact ⟨q, trivial⟩
      · exact absurd q (by decide)
    · rcases op_gone_x R J HH hq hm with ⟨q, -⟩ | ⟨-, q⟩
      · exact absurd q (by decide)
      · exact ⟨q, trivial⟩
  refine lv_aload_n hx hb dL_law_178 rfl (lv_at hl 3 rfl) ?_
  obtain ⟨fs9, hfs9⟩ := INV_m0 hI2.1
  refine goVI2 (X := [oc ob k ov]) (X2 := w2) (B := wM2) hc (INV_thrown l D hI2.1 H.size) (cwV 0 hts gL_law_X3_thrown rfl rfl rfl (by decide +kernel) ⟨(Nat.le_of_ble_eq_true rfl), (Nat.le_of_ble_eq_true rfl)⟩) hP hD hK hS hA (ci := 3) (q0 := 0) rfl hfs9 rfl hl.1 rfl (Nat.le_of_ble_eq_true rfl) dL_law_179 (by omega) (by omega) (fun t9 B9 H locs ht9 hP hD hS => ?_)
  rw [ht9.2] at hP hD
  rw [ht9.1]
  have hP : va_P D vwCl (oc ob k ov :: (w2 ++ wM2)) H := hP
  have hD : va_D (LA s) (oc ob k ov :: (w2 ++ wM2)) := hD
  refine lv_iload hx hb dL_law_182 (lv_at hl 0 rfl) ?_
  refine lv_icmp_eq (tgt := 189) hx hb dL_law_184 (by decide) (fun _ => ?_) (fun c9 => absurd rfl c9)
  refine lv_goto (tgt := 609) hx hb dL_law_189 (by decide) ?_
  exact W.widen (k := cells + 3) (n := slots + 18) (by omega) (by omega) (kk H locs ls ⟨_, _, _, _, hI2.1, hP, hD, hS, lv_sub hl [1, 2, 3, 4, 5] rfl⟩)
set_option maxHeartbeats 4000000 in
set_option maxRecDepth 100000 in
theorem st_submit (hX : LX p l s m meth c D k b L xs) (hi : i + 6 ≤ L) (hcb : cells + 3 ≤ room_1.cells) (hsb : slots + 18 ≤ room_1.slots) (kk : KC p l e s m below meth c Z D k d ob cq rq mq b i (cells + 3) (slots + 18)) (H : Heap) (locs : List Loc) (ls : Array Slot) (h : LPs D k s d ob cq rq mq b i H locs ls) : W p l e room_1 s m [Value.ref b].toArray below meth c H locs cells slots Z (F0 m 192 ls []) := by
  obtain ⟨hc, hK, hZ, hN, hXs, hbl, hL, hl0⟩ := hX
  obtain ⟨hx, hb, hml, hr, hts, hown, hlocks, hin⟩ := (show _ from hc)
  have hA : ∀ q, s.heap.size ≤ q → LA s q := fun q h => h
  obtain ⟨tr, wC, wM, ov, hI, hP, hD, hS, hl⟩ := h
  obtain ⟨ck, hd, po, st, sl, le, th, co, bu, tg, wa, se, ld, ow, wr, fi, sz, dl, wt, bl, sh, so, tn, sn, un, we, tg', se', gr, ba, dn, ur, rfl, rfl, R, J, HH⟩ := hI
  have hsn : sn ≤ tn := by rw [R.2.1]; exact dcN_le dn tn
  have hsn5 : sn ≤ 500 := Nat.le_trans hsn R.1
  refine lv_aload_n hx hb dL_law_192 rfl (lv_at hl 1 rfl) ?_
  refine lv_aload_n hx hb dL_law_193 rfl (lv_at hl 0 rfl) ?_
  refine lv_iload hx hb dL_law_194 (lv_at hl 4 rfl) ?_
  refine lv_iconst (v := nI 1) hx hb dL_law_196 (by decide) ?_
  refine nadd hx hb dL_law_197 ?_
  refine scr hx hb hXs hbl hS hL (j := i + 1) (by omega) dL_law_198 ?_
  refine lv_aload_n hx hb dL_law_199 rfl (lv_at hl 0 rfl) ?_
  refine lv_iload hx hb dL_law_200 (lv_at hl 4 rfl) ?_
  refine lv_iconst (v := nI 2) hx hb dL_law_202 (by decide) ?_
  refine nadd hx hb dL_law_203 ?_
  refine scr hx hb hXs hbl hS hL (j := i + 2) (by omega) dL_law_204 ?_
  have cut1 : ∀ w : Int32, w = (if xs (i + 2) = 0 then nI 0 else nI 1) → W p l e room_1 s m [Value.ref b].toArray below meth c H locs (cells) (slots) Z (F0 m 213 ls [.int w, .int (xs (i + 1)), .ref d]) := by
    intro w hw
    have hw01 : w = 0 ∨ w = 1 := by rw [hw]; split <;> first | exact Or.inl rfl | exact Or.inr rfl
    refine lv_aload_n hx hb dL_law_213 rfl (lv_at hl 0 rfl) ?_
    refine lv_iload hx hb dL_law_214 (lv_at hl 4 rfl) ?_
    refine lv_iconst (v := nI 3) hx hb dL_law_216 (by decide) ?_
    refine nadd hx hb dL_law_217 ?_
    refine scr hx hb hXs hbl hS hL (j := i + 3) (by omega) dL_law_218 ?_
    refine lv_aload_n hx hb dL_law_219 rfl (lv_at hl 0 rfl) ?_
    refine lv_iload hx hb dL_law_220 (lv_at hl 4 rfl) ?_
    refine lv_iconst (v := nI 4) hx hb dL_law_222 (by decide) ?_
    refine nadd hx hb dL_law_223 ?_
    refine scr hx hb hXs hbl hS hL (j := i + 4) (by omega) dL_law_224 ?_
    refine lv_aload_n hx hb dL_law_225 rfl (lv_at hl 0 rfl) ?_
    refine lv_iload hx hb dL_law_226 (lv_at hl 4 rfl) ?_
    refine lv_iconst (v := nI 5) hx hb dL_law_228 (by decide) ?_
    refine nadd hx hb dL_law_229 ?_
    refine scr hx hb hXs hbl hS hL (j := i + 5) (by omega) dL_law_230 ?_
    refine lv_aload_n hx hb dL_law_231 rfl (lv_at hl 3 rfl) ?_
    refine goH (X := []) (B := oc ob k ov :: (DkW d (cq 0) (rq 0) ck hd po st sl le ++ (ClW cq k th co bu tg wa se ld ++ RqW rq k ow wr fi sz dl wt bl sh so tn sn un))) (Y := MoW mq k tr ck hd po th we bu tg' se' gr ba tn sn un ow fi sz so wr dn ur dl sl le) hc (kL_submit rfl (fun z9 => kX2_submit l D k d cq rq z9 ck hd po st sl le th co bu tg wa se ld ow wr fi sz dl wt bl sh so tn sn un (xs (i + 1)) w (xs (i + 3)) (xs (i + 4)) (xs (i + 5)) J.1 R.1 hw01 hl0) (fun E w h => h.1) H.size) (vx_cwSW 7 hts gL_law_L_submit rfl rfl rfl (by decide +kernel) ⟨(Nat.le_of_ble_eq_true rfl), (Nat.le_of_ble_eq_true rfl)⟩) hP hD hK hZ hN hS hA rfl hl.1 rfl (Nat.le_of_ble_eq_true rfl) dL_law_232 (by omega) (by omega) (fun r9 B9 H locs hq hP hD hS => ?_)
    obtain ⟨ov2, w2, rfl, hq⟩ := hq
    have hP : va_P D vwCl (oc ob k ov2 :: (w2 ++ MoW mq k tr ck hd po th we bu tg' se' gr ba tn sn un ow fi sz so wr dn ur dl sl le)) H := hP
    have hD : va_D (LA s) (oc ob k ov2 :: (w2 ++ MoW mq k tr ck hd po th we bu tg' se' gr ba tn sn un ow fi sz so wr dn ur dl sl le)) := hD
    refine lv_istore (lv' := [(5, .int r9), (0, .ref b), (1, .ref d), (2, .ref (mq 0)), (3, .ref ob), (4, .int (nI i))]) hx hb dL_law_235 hl (by decide) rfl (fun ls hl => ?_)
    refine lv_aload_n hx hb dL_law_237 rfl (lv_at hl 3 rfl) ?_
    refine lv_aload_n hx hb dL_law_238 rfl (lv_at hl 1 rfl) ?_
    refine lv_iload hx hb dL_law_239 (lv_at hl 5 rfl) ?_
    refine lv_iconst (v := nI 1) hx hb dL_law_241 (by decide) ?_
    refine nadd hx hb dL_law_242 ?_
    refine scr hx hb hXs hbl hS hL (j := i + 1) (by omega) dL_law_243 ?_
    refine lv_aload_n hx hb dL_law_244 rfl (lv_at hl 1 rfl) ?_
    refine lv_iload hx hb dL_law_245 (lv_at hl 5 rfl) ?_
    refine lv_iconst (v := nI 2) hx hb dL_law_247 (by decide) ?_
    refine nadd hx hb dL_law_248 ?_
    refine scr hx hb hXs hbl hS hL (j := i + 2) (by omega) dL_law_249 ?_
    have cut2 : ∀ w9 : Int32, w9 = w → W p l e room_1 s m [Value.ref b].toArray below meth c H locs (cells + 2) (slots + 12) Z (F0 m 258 ls [.int w9, .int (xs (i + 1)), .ref (mq 0)]) := by
      intro w9 hw9
      subst hw9
      refine lv_aload_n hx hb dL_law_258 rfl (lv_at hl 1 rfl) ?_
      refine lv_iload hx hb dL_law_259 (lv_at hl 5 rfl) ?_
      refine lv_iconst (v := nI 3) hx hb dL_law_261 (by decide) ?_
      refine nadd hx hb dL_law_262 ?_
      refine scr hx hb hXs hbl hS hL (j := i + 3) (by omega) dL_law_263 ?_
      refine lv_aload_n hx hb dL_law_264 rfl (lv_at hl 1 rfl) ?_
      refine lv_iload hx hb dL_law_265 (lv_at hl 5 rfl) ?_
      refine lv_iconst (v := nI 4) hx hb dL_law_267 (by decide) ?_
      refine nadd hx hb dL_law_268 ?_
      refine scr hx hb hXs hbl hS hL (j := i + 4) (by omega) dL_law_269 ?_
      refine lv_aload_n hx hb dL_law_270 rfl (lv_at hl 1 rfl) ?_
      refine lv_iload hx hb dL_law_271 (lv_at hl 5 rfl) ?_
      refine lv_iconst (v := nI 5) hx hb dL_law_273 (by decide) ?_
      refine nadd hx hb dL_law_274 ?_
      refine scr hx hb hXs hbl hS hL (j := i + 5) (by omega) dL_law_275 ?_
      refine goVI2 (X := [oc ob k ov2]) (X2 := w2) (B := MoW mq k tr ck hd po th we bu tg' se' gr ba tn sn un ow fi sz so wr dn ur dl sl le) hc (kX3_submit l D k mq H.size tr ck hd po th we bu tg' se' gr ba tn sn un ow fi sz so wr dn ur dl sl le (xs (i + 1)) w9 (xs (i + 3)) (xs (i + 4)) (xs (i + 5)) R.1 hw01) (cwV 5 hts gL_law_X3_submit rfl rfl rfl (by decide +kernel) ⟨(Nat.le_of_ble_eq_true rfl), (Nat.le_of_ble_eq_true rfl)⟩) hP hD hK hS hA (ci := 3) (q0 := 0) rfl rfl rfl hl.1 rfl (Nat.le_of_ble_eq_true rfl) dL_law_276 (by omega) (by omega) (fun b9 wM2 H locs hm hP hD hS => ?_)
      have hP : va_P D vwCl (oc ob k ov2 :: (w2 ++ wM2)) H := hP
      have hD : va_D (LA s) (oc ob k ov2 :: (w2 ++ wM2)) := hD
      have hI2 : INV d cq rq mq k r9 w2 wM2 ∧ (r9 = nI 0 → ov2 0 = b9.toInt64) := by
        rcases hq with ⟨rfl, hq⟩ | ⟨rfl, hq⟩
        · obtain ⟨r, hq, hov⟩ := hq
          obtain ⟨e1, e2⟩ := op_submit R J HH hq hm
          exact ⟨e2, fun _ => by rw [hov, e1]⟩
        · exact ⟨op_submit_x R J HH hq hm, fun h => absurd h (by decide)⟩
      refine lv_istore (lv' := [(6, .int b9), (5, .int r9), (0, .ref b), (1, .ref d), (2, .ref (mq 0)), (3, .ref ob), (4, .int (nI i))]) hx hb dL_law_279 hl (by decide) rfl (fun ls hl => ?_)
      refine lv_aload_n hx hb dL_law_281 rfl (lv_at hl 4 rfl) ?_
      obtain ⟨fs9, hfs9⟩ := INV_m0 hI2.1
      refine goVI2 (X := [oc ob k ov2]) (X2 := w2) (B := wM2) hc (INV_thrown l D hI2.1 H.size) (cwV 0 hts gL_law_X3_thrown rfl rfl rfl (by decide +kernel) ⟨(Nat.le_of_ble_eq_true rfl), (Nat.le_of_ble_eq_true rfl)⟩) hP hD hK hS hA (ci := 3) (q0 := 0) rfl hfs9 rfl hl.1 rfl (Nat.le_of_ble_eq_true rfl) dL_law_282 (by omega) (by omega) (fun t9 B9 H locs ht9 hP hD hS => ?_)
      rw [ht9.2] at hP hD
      rw [ht9.1]
      have hP : va_P D vwCl (oc ob k ov2 :: (w2 ++ wM2)) H := hP
      have hD : va_D (LA s) (oc ob k ov2 :: (w2 ++ wM2)) := hD
      refine lv_iload hx hb dL_law_285 (lv_at hl 1 rfl) ?_
      refine lv_icmp_eq (tgt := 292) hx hb dL_law_287 (by decide) (fun _ => ?_) (fun c9 => absurd rfl c9)
      refine lv_iload hx hb dL_law_292 (lv_at hl 1 rfl) ?_
      refine lv_if_ne (tgt := 309) hx hb dL_law_294 (by decide) (fun c3 => ?_) (fun c3 => ?_)
      · refine lv_goto (tgt := 609) hx hb dL_law_309 (by decide) ?_
        exact W.widen (k := cells + 3) (n := slots + 18) (by omega) (by omega) (kk H locs ls ⟨_, _, _, _, hI2.1, hP, hD, hS, lv_sub hl [2, 3, 4, 5, 6] rfl⟩)
      have hov := hI2.2 c3
      refine lv_aload_n hx hb dL_law_297 rfl (lv_at hl 5 rfl) ?_
      refine lv_iconst (v := nI 0) hx hb dL_law_298 (by decide) ?_
      refine aJ hx hb hK hP 0 2 rfl rfl (ixN (j := 0) (n := 1) (by decide) (by decide)) dL_law_299 ?_
      refine lv_iload hx hb dL_law_300 (lv_at hl 0 rfl) ?_
      refine lv_i2l (v := b9.toInt64) hx hb dL_law_302 rfl ?_
      refine W.lcmp hx hb dL_law_303 ?_
      refine lv_if_eq (tgt := 309) hx hb dL_law_304 (by decide) (fun _ => ?_) (fun c9 => absurd ((lg_cmp_eq _ _).mpr hov) c9)
      refine lv_goto (tgt := 609) hx hb dL_law_309 (by decide) ?_
      exact W.widen (k := cells + 3) (n := slots + 18) (by omega) (by omega) (kk H locs ls ⟨_, _, _, _, hI2.1, hP, hD, hS, lv_sub hl [2, 3, 4, 5, 6] rfl⟩)
    refine lv_if_eq (tgt := 257) hx hb dL_law_250 (by decide) (fun c2 => ?_) (fun c2 => ?_)
    · refine lv_iconst (v := nI 0) hx hb dL_law_257 (by decide) ?_
      exact cut2 _ (by rw [hw, if_pos c2])
    · refine lv_iconst (v := nI 1) hx hb dL_law_253 (by decide) ?_
      refine lv_goto (tgt := 258) hx hb dL_law_254 (by decide) ?_
      exact cut2 _ (by rw [hw, if_neg c2])
  refine lv_if_eq (tgt := 212) hx hb dL_law_205 (by decide) (fun c1 => ?_) (fun c1 => ?_)
  · refine lv_iconst (v := nI 0) hx hb dL_law_212 (by decide) ?_
    exact cut1 _ (if_pos c1).symm
  · refine lv_iconst (v := nI 1) hx hb dL_law_208 (by decide) ?_
    refine lv_goto (tgt := 213) hx hb dL_law_209 (by decide) ?_
    exact cut1 _ (if_neg c1).symm
set_option maxHeartbeats 4000000 in
set_option maxRecDepth 100000 in
theorem st_dispatch (hX : LX p l s m meth c D k b L xs) (hi : i + 6 ≤ L) (hcb : cells + 3 ≤ room_1.cells) (hsb : slots + 18 ≤ room_1.slots) (kk : KC p l e s m below meth c Z D k d ob cq rq mq b i (cells + 3) (slots + 18)) (H : Heap) (locs : List Loc) (ls : Array Slot) (h : LPs D k s d ob cq rq mq b i H locs ls) : W p l e room_1 s m [Value.ref b].toArray below meth c H locs cells slots Z (F0 m 312 ls []) := by
  obtain ⟨hc, hK, hZ, hN, hXs, hbl, hL, hl0⟩ := hX
  obtain ⟨hx, hb, hml, hr, hts, hown, hlocks, hin⟩ := (show _ from hc)
  have hA : ∀ q, s.heap.size ≤ q → LA s q := fun q h => h
  obtain ⟨tr, wC, wM, ov, hI, hP, hD, hS, hl⟩ := h
  obtain ⟨ck, hd, po, st, sl, le, th, co, bu, tg, wa, se, ld, ow, wr, fi, sz, dl, wt, bl, sh, so, tn, sn, un, we, tg', se', gr, ba, dn, ur, rfl, rfl, R, J, HH⟩ := hI
  have hsn : sn ≤ tn := by rw [R.2.1]; exact dcN_le dn tn
  have hsn5 : sn ≤ 500 := Nat.le_trans hsn R.1
  refine lv_aload_n hx hb dL_law_312 rfl (lv_at hl 1 rfl) ?_
  refine goVI (X := [oc ob k ov]) (B := DkW d (cq 0) (rq 0) ck hd po st sl le ++ (ClW cq k th co bu tg wa se ld ++ RqW rq k ow wr fi sz dl wt bl sh so tn sn un)) (Y := MoW mq k tr ck hd po th we bu tg' se' gr ba tn sn un ow fi sz so wr dn ur dl sl le) hc (kX2_dispatch l D k d cq rq H.size ck hd po st sl le th co bu tg wa se ld ow wr fi sz dl wt bl sh so tn sn un  R.1 (d_ow J) (d_fr R)) (cwV 0 hts gL_law_X2_dispatch rfl rfl rfl (by decide +kernel) ⟨(Nat.le_of_ble_eq_true rfl), (Nat.le_of_ble_eq_true rfl)⟩) hP hD hK hS hA (ci := 2) (q0 := 0) rfl rfl rfl hl.1 rfl (Nat.le_of_ble_eq_true rfl) dL_law_313 (by omega) (by omega) (fun r9 w2 H locs hq hP hD hS => ?_)
  have hP : va_P D vwCl (oc ob k ov :: (w2 ++ MoW mq k tr ck hd po th we bu tg' se' gr ba tn sn un ow fi sz so wr dn ur dl sl le)) H := hP
  have hD : va_D (LA s) (oc ob k ov :: (w2 ++ MoW mq k tr ck hd po th we bu tg' se' gr ba tn sn un ow fi sz so wr dn ur dl sl le)) := hD
  refine lv_aload_n hx hb dL_law_316 rfl (lv_at hl 2 rfl) ?_
  refine goVI2 (X := [oc ob k ov]) (X2 := w2) (B := MoW mq k tr ck hd po th we bu tg' se' gr ba tn sn un ow fi sz so wr dn ur dl sl le) hc (kX3_dispatch l D k mq H.size tr ck hd po th we bu tg' se' gr ba tn sn un ow fi sz so wr dn ur dl sl le  R.1 hsn (d_ow2 J) (d_ch R J) (d_nx R J)) (cwV 0 hts gL_law_X3_dispatch rfl rfl rfl (by decide +kernel) ⟨(Nat.le_of_ble_eq_true rfl), (Nat.le_of_ble_eq_true rfl)⟩) hP hD hK hS hA (ci := 3) (q0 := 0) rfl rfl rfl hl.1 rfl (Nat.le_of_ble_eq_true rfl) dL_law_317 (by omega) (by omega) (fun b9 wM2 H locs hm hP hD hS => ?_)
  have hP : va_P D vwCl (oc ob k ov :: (w2 ++ wM2)) H := hP
  have hD : va_D (LA s) (oc ob k ov :: (w2 ++ wM2)) := hD
  obtain ⟨e1, hI9⟩ := op_dispatch R J HH hq hm
  have hI2 : INV d cq rq mq k (nI 0) w2 wM2 ∧ True := ⟨hI9, trivial⟩
  refine lv_icmp_eq (tgt := 609) hx hb dL_law_320 (by decide) (fun _ => ?_) (fun c9 => absurd e1 c9)
  exact W.widen (k := cells + 3) (n := slots + 18) (by omega) (by omega) (kk H locs ls ⟨_, _, _, _, hI2.1, hP, hD, hS, lv_sub hl [0, 1, 2, 3, 4] rfl⟩)
set_option maxHeartbeats 4000000 in
set_option maxRecDepth 100000 in
theorem st_pass (hX : LX p l s m meth c D k b L xs) (hi : i + 6 ≤ L) (hcb : cells + 3 ≤ room_1.cells) (hsb : slots + 18 ≤ room_1.slots) (kk : KC p l e s m below meth c Z D k d ob cq rq mq b i (cells + 3) (slots + 18)) (H : Heap) (locs : List Loc) (ls : Array Slot) (h : LPs D k s d ob cq rq mq b i H locs ls) : W p l e room_1 s m [Value.ref b].toArray below meth c H locs cells slots Z (F0 m 325 ls []) := by
  obtain ⟨hc, hK, hZ, hN, hXs, hbl, hL, hl0⟩ := hX
  obtain ⟨hx, hb, hml, hr, hts, hown, hlocks, hin⟩ := (show _ from hc)
  have hA : ∀ q, s.heap.size ≤ q → LA s q := fun q h => h
  obtain ⟨tr, wC, wM, ov, hI, hP, hD, hS, hl⟩ := h
  obtain ⟨ck, hd, po, st, sl, le, th, co, bu, tg, wa, se, ld, ow, wr, fi, sz, dl, wt, bl, sh, so, tn, sn, un, we, tg', se', gr, ba, dn, ur, rfl, rfl, R, J, HH⟩ := hI
  have hsn : sn ≤ tn := by rw [R.2.1]; exact dcN_le dn tn
  have hsn5 : sn ≤ 500 := Nat.le_trans hsn R.1
  refine lv_aload_n hx hb dL_law_325 rfl (lv_at hl 1 rfl) ?_
  refine lv_aload_n hx hb dL_law_326 rfl (lv_at hl 0 rfl) ?_
  refine lv_iload hx hb dL_law_327 (lv_at hl 4 rfl) ?_
  refine lv_iconst (v := nI 1) hx hb dL_law_329 (by decide) ?_
  refine nadd hx hb dL_law_330 ?_
  refine scr hx hb hXs hbl hS hL (j := i + 1) (by omega) dL_law_331 ?_
  refine lv_aload_n hx hb dL_law_332 rfl (lv_at hl 3 rfl) ?_
  refine goH (X := []) (B := oc ob k ov :: (DkW d (cq 0) (rq 0) ck hd po st sl le ++ (ClW cq k th co bu tg wa se ld ++ RqW rq k ow wr fi sz dl wt bl sh so tn sn un))) (Y := MoW mq k tr ck hd po th we bu tg' se' gr ba tn sn un ow fi sz so wr dn ur dl sl le) hc (kL_pass rfl (fun z9 => kX2_pass l D k d cq rq z9 ck hd po st sl le th co bu tg wa se ld ow wr fi sz dl wt bl sh so tn sn un (xs (i + 1))  hl0) (fun E w h => h.1) H.size) (vx_cwSW 3 hts gL_law_L_pass rfl rfl rfl (by decide +kernel) ⟨(Nat.le_of_ble_eq_true rfl), (Nat.le_of_ble_eq_true rfl)⟩) hP hD hK hZ hN hS hA rfl hl.1 rfl (Nat.le_of_ble_eq_true rfl) dL_law_333 (by omega) (by omega) (fun r9 B9 H locs hq hP hD hS => ?_)
  obtain ⟨ov2, w2, rfl, hq⟩ := hq
  have hP : va_P D vwCl (oc ob k ov2 :: (w2 ++ MoW mq k tr ck hd po th we bu tg' se' gr ba tn sn un ow fi sz so wr dn ur dl sl le)) H := hP
  have hD : va_D (LA s) (oc ob k ov2 :: (w2 ++ MoW mq k tr ck hd po th we bu tg' se' gr ba tn sn un ow fi sz so wr dn ur dl sl le)) := hD
  refine lv_istore (lv' := [(5, .int r9), (0, .ref b), (1, .ref d), (2, .ref (mq 0)), (3, .ref ob), (4, .int (nI i))]) hx hb dL_law_336 hl (by decide) rfl (fun ls hl => ?_)
  refine lv_aload_n hx hb dL_law_338 rfl (lv_at hl 3 rfl) ?_
  refine lv_aload_n hx hb dL_law_339 rfl (lv_at hl 1 rfl) ?_
  refine lv_iload hx hb dL_law_340 (lv_at hl 5 rfl) ?_
  refine lv_iconst (v := nI 1) hx hb dL_law_342 (by decide) ?_
  refine nadd hx hb dL_law_343 ?_
  refine scr hx hb hXs hbl hS hL (j := i + 1) (by omega) dL_law_344 ?_
  refine goVL2 (X := [oc ob k ov2]) (X2 := w2) (B := MoW mq k tr ck hd po th we bu tg' se' gr ba tn sn un ow fi sz so wr dn ur dl sl le) hc (kX3_pass l D k mq H.size tr ck hd po th we bu tg' se' gr ba tn sn un ow fi sz so wr dn ur dl sl le (xs (i + 1)) ) (cwV 1 hts gL_law_X3_pass rfl rfl rfl (by decide +kernel) ⟨(Nat.le_of_ble_eq_true rfl), (Nat.le_of_ble_eq_true rfl)⟩) hP hD hK hS hA (ci := 3) (q0 := 0) rfl rfl rfl hl.1 rfl (Nat.le_of_ble_eq_true rfl) dL_law_345 (by omega) (by omega) (fun b9 wM2 H locs hm hP hD hS => ?_)
  have hP : va_P D vwCl (oc ob k ov2 :: (w2 ++ wM2)) H := hP
  have hD : va_D (LA s) (oc ob k ov2 :: (w2 ++ wM2)) := hD
  have hI2 : INV d cq rq mq k r9 w2 wM2 ∧ (r9 = nI 0 → ov2 0 = b9) := by
    rcases hq with ⟨rfl, hq⟩ | ⟨rfl, hq⟩
    · obtain ⟨e1, e2⟩ := op_pass R J HH hq hm
      exact ⟨e2, fun _ => e1⟩
    · exact ⟨op_pass_x R J HH hq hm, fun h => absurd h (by decide)⟩
  refine lv_lstore (lv' := [(6, .long b9), (5, .int r9), (0, .ref b), (1, .ref d), (2, .ref (mq 0)), (3, .ref ob), (4, .int (nI i))]) hx hb dL_law_348 hl (by decide) rfl (fun ls hl => ?_)
  refine lv_aload_n hx hb dL_law_350 rfl (lv_at hl 4 rfl) ?_
  obtain ⟨fs9, hfs9⟩ := INV_m0 hI2.1
  refine goVI2 (X := [oc ob k ov2]) (X2 := w2) (B := wM2) hc (INV_thrown l D hI2.1 H.size) (cwV 0 hts gL_law_X3_thrown rfl rfl rfl (by decide +kernel) ⟨(Nat.le_of_ble_eq_true rfl), (Nat.le_of_ble_eq_true rfl)⟩) hP hD hK hS hA (ci := 3) (q0 := 0) rfl hfs9 rfl hl.1 rfl (Nat.le_of_ble_eq_true rfl) dL_law_351 (by omega) (by omega) (fun t9 B9 H locs ht9 hP hD hS => ?_)
  rw [ht9.2] at hP hD
  rw [ht9.1]
  have hP : va_P D vwCl (oc ob k ov2 :: (w2 ++ wM2)) H := hP
  have hD : va_D (LA s) (oc ob k ov2 :: (w2 ++ wM2)) := hD
  refine lv_iload hx hb dL_law_354 (lv_at hl 1 rfl) ?_
  refine lv_icmp_eq (tgt := 361) hx hb dL_law_356 (by decide) (fun _ => ?_) (fun c9 => absurd rfl c9)
  refine lv_iload hx hb dL_law_361 (lv_at hl 1 rfl) ?_
  refine lv_if_ne (tgt := 377) hx hb dL_law_363 (by decide) (fun c3 => ?_) (fun c3 => ?_)
  · refine lv_goto (tgt := 609) hx hb dL_law_377 (by decide) ?_
    exact W.widen (k := cells + 3) (n := slots + 18) (by omega) (by omega) (kk H locs ls ⟨_, _, _, _, hI2.1, hP, hD, hS, lv_sub hl [2, 3, 4, 5, 6] rfl⟩)
  have hov := hI2.2 c3
  refine lv_aload_n hx hb dL_law_366 rfl (lv_at hl 5 rfl) ?_
  refine lv_iconst (v := nI 0) hx hb dL_law_367 (by decide) ?_
  refine aJ hx hb hK hP 0 2 rfl rfl (ixN (j := 0) (n := 1) (by decide) (by decide)) dL_law_368 ?_
  refine lv_lload hx hb dL_law_369 (lv_at hl 0 rfl) ?_
  refine W.lcmp hx hb dL_law_371 ?_
  refine lv_if_eq (tgt := 377) hx hb dL_law_372 (by decide) (fun _ => ?_) (fun c9 => absurd ((lg_cmp_eq _ _).mpr hov) c9)
  refine lv_goto (tgt := 609) hx hb dL_law_377 (by decide) ?_
  exact W.widen (k := cells + 3) (n := slots + 18) (by omega) (by omega) (kk H locs ls ⟨_, _, _, _, hI2.1, hP, hD, hS, lv_sub hl [2, 3, 4, 5, 6] rfl⟩)
set_option maxHeartbeats 4000000 in
set_option maxRecDepth 100000 in
theorem st_state (hX : LX p l s m meth c D k b L xs) (hi : i + 6 ≤ L) (hcb : cells + 3 ≤ room_1.cells) (hsb : slots + 18 ≤ room_1.slots) (kk : KC p l e s m below meth c Z D k d ob cq rq mq b i (cells + 3) (slots + 18)) (H : Heap) (locs : List Loc) (ls : Array Slot) (h : LPs D k s d ob cq rq mq b i H locs ls) : W p l e room_1 s m [Value.ref b].toArray below meth c H locs cells slots Z (F0 m 380 ls []) := by
  obtain ⟨hc, hK, hZ, hN, hXs, hbl, hL, hl0⟩ := hX
  obtain ⟨hx, hb, hml, hr, hts, hown, hlocks, hin⟩ := (show _ from hc)
  have hA : ∀ q, s.heap.size ≤ q → LA s q := fun q h => h
  obtain ⟨tr, wC, wM, ov, hI, hP, hD, hS, hl⟩ := h
  obtain ⟨ck, hd, po, st, sl, le, th, co, bu, tg, wa, se, ld, ow, wr, fi, sz, dl, wt, bl, sh, so, tn, sn, un, we, tg', se', gr, ba, dn, ur, rfl, rfl, R, J, HH⟩ := hI
  have hsn : sn ≤ tn := by rw [R.2.1]; exact dcN_le dn tn
  have hsn5 : sn ≤ 500 := Nat.le_trans hsn R.1
  refine lv_aload_n hx hb dL_law_380 rfl (lv_at hl 1 rfl) ?_
  refine lv_aload_n hx hb dL_law_381 rfl (lv_at hl 0 rfl) ?_
  refine lv_iload hx hb dL_law_382 (lv_at hl 4 rfl) ?_
  refine lv_iconst (v := nI 1) hx hb dL_law_384 (by decide) ?_
  refine nadd hx hb dL_law_385 ?_
  refine scr hx hb hXs hbl hS hL (j := i + 1) (by omega) dL_law_386 ?_
  refine lv_aload_n hx hb dL_law_387 rfl (lv_at hl 3 rfl) ?_
  refine goH (X := []) (B := oc ob k ov :: (DkW d (cq 0) (rq 0) ck hd po st sl le ++ (ClW cq k th co bu tg wa se ld ++ RqW rq k ow wr fi sz dl wt bl sh so tn sn un))) (Y := MoW mq k tr ck hd po th we bu tg' se' gr ba tn sn un ow fi sz so wr dn ur dl sl le) hc (kL_state rfl (fun z9 => kX2_state l D k d cq rq z9 ck hd po st sl le th co bu tg wa se ld ow wr fi sz dl wt bl sh so tn sn un (xs (i + 1)) R.1 hl0) (fun E w h => h.1) H.size) (vx_cwSW 3 hts gL_law_L_state rfl rfl rfl (by decide +kernel) ⟨(Nat.le_of_ble_eq_true rfl), (Nat.le_of_ble_eq_true rfl)⟩) hP hD hK hZ hN hS hA rfl hl.1 rfl (Nat.le_of_ble_eq_true rfl) dL_law_388 (by omega) (by omega) (fun r9 B9 H locs hq hP hD hS => ?_)
  obtain ⟨ov2, w2, rfl, hq⟩ := hq
  have hP : va_P D vwCl (oc ob k ov2 :: (w2 ++ MoW mq k tr ck hd po th we bu tg' se' gr ba tn sn un ow fi sz so wr dn ur dl sl le)) H := hP
  have hD : va_D (LA s) (oc ob k ov2 :: (w2 ++ MoW mq k tr ck hd po th we bu tg' se' gr ba tn sn un ow fi sz so wr dn ur dl sl le)) := hD
  refine lv_istore (lv' := [(5, .int r9), (0, .ref b), (1, .ref d), (2, .ref (mq 0)), (3, .ref ob), (4, .int (nI i))]) hx hb dL_law_391 hl (by decide) rfl (fun ls hl => ?_)
  refine lv_aload_n hx hb dL_law_393 rfl (lv_at hl 3 rfl) ?_
  refine lv_aload_n hx hb dL_law_394 rfl (lv_at hl 1 rfl) ?_
  refine lv_iload hx hb dL_law_395 (lv_at hl 5 rfl) ?_
  refine lv_iconst (v := nI 1) hx hb dL_law_397 (by decide) ?_
  refine nadd hx hb dL_law_398 ?_
  refine scr hx hb hXs hbl hS hL (j := i + 1) (by omega) dL_law_399 ?_
  refine goVI2 (X := [oc ob k ov2]) (X2 := w2) (B := MoW mq k tr ck hd po th we bu tg' se' gr ba tn sn un ow fi sz so wr dn ur dl sl le) hc (kX3_state l D k mq H.size tr ck hd po th we bu tg' se' gr ba tn sn un ow fi sz so wr dn ur dl sl le (xs (i + 1)) R.1) (cwV 1 hts gL_law_X3_state rfl rfl rfl (by decide +kernel) ⟨(Nat.le_of_ble_eq_true rfl), (Nat.le_of_ble_eq_true rfl)⟩) hP hD hK hS hA (ci := 3) (q0 := 0) rfl rfl rfl hl.1 rfl (Nat.le_of_ble_eq_true rfl) dL_law_400 (by omega) (by omega) (fun b9 wM2 H locs hm hP hD hS => ?_)
  have hP : va_P D vwCl (oc ob k ov2 :: (w2 ++ wM2)) H := hP
  have hD : va_D (LA s) (oc ob k ov2 :: (w2 ++ wM2)) := hD
  have hI2 : INV d cq rq mq k r9 w2 wM2 ∧ (r9 = nI 0 → ov2 0 = b9.toInt64) := by
    rcases hq with ⟨rfl, hq⟩ | ⟨rfl, hq⟩
    · obtain ⟨r, hq, hov⟩ := hq
      obtain ⟨e1, e2⟩ := op_state R J HH hq hm
      exact ⟨e2, fun _ => by rw [hov, e1]⟩
    · exact ⟨op_state_x R J HH hq hm, fun h => absurd h (by decide)⟩
  refine lv_istore (lv' := [(6, .int b9), (5, .int r9), (0, .ref b), (1, .ref d), (2, .ref (mq 0)), (3, .ref ob), (4, .int (nI i))]) hx hb dL_law_403 hl (by decide) rfl (fun ls hl => ?_)
  refine lv_aload_n hx hb dL_law_405 rfl (lv_at hl 4 rfl) ?_
  obtain ⟨fs9, hfs9⟩ := INV_m0 hI2.1
  refine goVI2 (X := [oc ob k ov2]) (X2 := w2) (B := wM2) hc (INV_thrown l D hI2.1 H.size) (cwV 0 hts gL_law_X3_thrown rfl rfl rfl (by decide +kernel) ⟨(Nat.le_of_ble_eq_true rfl), (Nat.le_of_ble_eq_true rfl)⟩) hP hD hK hS hA (ci := 3) (q0 := 0) rfl hfs9 rfl hl.1 rfl (Nat.le_of_ble_eq_true rfl) dL_law_406 (by omega) (by omega) (fun t9 B9 H locs ht9 hP hD hS => ?_)
  rw [ht9.2] at hP hD
  rw [ht9.1]
  have hP : va_P D vwCl (oc ob k ov2 :: (w2 ++ wM2)) H := hP
  have hD : va_D (LA s) (oc ob k ov2 :: (w2 ++ wM2)) := hD
  refine lv_iload hx hb dL_law_409 (lv_at hl 1 rfl) ?_
  refine lv_icmp_eq (tgt := 416) hx hb dL_law_411 (by decide) (fun _ => ?_) (fun c9 => absurd rfl c9)
  refine lv_iload hx hb dL_law_416 (lv_at hl 1 rfl) ?_
  refine lv_if_ne (tgt := 433) hx hb dL_law_418 (by decide) (fun c3 => ?_) (fun c3 => ?_)
  · refine lv_goto (tgt := 609) hx hb dL_law_433 (by decide) ?_
    exact W.widen (k := cells + 3) (n := slots + 18) (by omega) (by omega) (kk H locs ls ⟨_, _, _, _, hI2.1, hP, hD, hS, lv_sub hl [2, 3, 4, 5, 6] rfl⟩)
  have hov := hI2.2 c3
  refine lv_aload_n hx hb dL_law_421 rfl (lv_at hl 5 rfl) ?_
  refine lv_iconst (v := nI 0) hx hb dL_law_422 (by decide) ?_
  refine aJ hx hb hK hP 0 2 rfl rfl (ixN (j := 0) (n := 1) (by decide) (by decide)) dL_law_423 ?_
  refine lv_iload hx hb dL_law_424 (lv_at hl 0 rfl) ?_
  refine lv_i2l (v := b9.toInt64) hx hb dL_law_426 rfl ?_
  refine W.lcmp hx hb dL_law_427 ?_
  refine lv_if_eq (tgt := 433) hx hb dL_law_428 (by decide) (fun _ => ?_) (fun c9 => absurd ((lg_cmp_eq _ _).mpr hov) c9)
  refine lv_goto (tgt := 609) hx hb dL_law_433 (by decide) ?_
  exact W.widen (k := cells + 3) (n := slots + 18) (by omega) (by omega) (kk H locs ls ⟨_, _, _, _, hI2.1, hP, hD, hS, lv_sub hl [2, 3, 4, 5, 6] rfl⟩)
set_option maxHeartbeats 4000000 in
set_option maxRecDepth 100000 in
theorem st_order (hX : LX p l s m meth c D k b L xs) (hi : i + 6 ≤ L) (hcb : cells + 3 ≤ room_1.cells) (hsb : slots + 18 ≤ room_1.slots) (kk : KC p l e s m below meth c Z D k d ob cq rq mq b i (cells + 3) (slots + 18)) (H : Heap) (locs : List Loc) (ls : Array Slot) (h : LPs D k s d ob cq rq mq b i H locs ls) : W p l e room_1 s m [Value.ref b].toArray below meth c H locs cells slots Z (F0 m 436 ls []) := by
  obtain ⟨hc, hK, hZ, hN, hXs, hbl, hL, hl0⟩ := hX
  obtain ⟨hx, hb, hml, hr, hts, hown, hlocks, hin⟩ := (show _ from hc)
  have hA : ∀ q, s.heap.size ≤ q → LA s q := fun q h => h
  obtain ⟨tr, wC, wM, ov, hI, hP, hD, hS, hl⟩ := h
  obtain ⟨ck, hd, po, st, sl, le, th, co, bu, tg, wa, se, ld, ow, wr, fi, sz, dl, wt, bl, sh, so, tn, sn, un, we, tg', se', gr, ba, dn, ur, rfl, rfl, R, J, HH⟩ := hI
  have hsn : sn ≤ tn := by rw [R.2.1]; exact dcN_le dn tn
  have hsn5 : sn ≤ 500 := Nat.le_trans hsn R.1
  refine lv_aload_n hx hb dL_law_436 rfl (lv_at hl 1 rfl) ?_
  refine lv_aload_n hx hb dL_law_437 rfl (lv_at hl 0 rfl) ?_
  refine lv_iload hx hb dL_law_438 (lv_at hl 4 rfl) ?_
  refine lv_iconst (v := nI 1) hx hb dL_law_440 (by decide) ?_
  refine nadd hx hb dL_law_441 ?_
  refine scr hx hb hXs hbl hS hL (j := i + 1) (by omega) dL_law_442 ?_
  refine goVI (X := [oc ob k ov]) (B := DkW d (cq 0) (rq 0) ck hd po st sl le ++ (ClW cq k th co bu tg wa se ld ++ RqW rq k ow wr fi sz dl wt bl sh so tn sn un)) (Y := MoW mq k tr ck hd po th we bu tg' se' gr ba tn sn un ow fi sz so wr dn ur dl sl le) hc (kX2_order l D k d cq rq H.size ck hd po st sl le th co bu tg wa se ld ow wr fi sz dl wt bl sh so tn sn un (xs (i + 1)) hsn5) (cwV 1 hts gL_law_X2_order rfl rfl rfl (by decide +kernel) ⟨(Nat.le_of_ble_eq_true rfl), (Nat.le_of_ble_eq_true rfl)⟩) hP hD hK hS hA (ci := 2) (q0 := 0) rfl rfl rfl hl.1 rfl (Nat.le_of_ble_eq_true rfl) dL_law_443 (by omega) (by omega) (fun r9 w2 H locs hq hP hD hS => ?_)
  have hP : va_P D vwCl (oc ob k ov :: (w2 ++ MoW mq k tr ck hd po th we bu tg' se' gr ba tn sn un ow fi sz so wr dn ur dl sl le)) H := hP
  have hD : va_D (LA s) (oc ob k ov :: (w2 ++ MoW mq k tr ck hd po th we bu tg' se' gr ba tn sn un ow fi sz so wr dn ur dl sl le)) := hD
  refine lv_aload_n hx hb dL_law_446 rfl (lv_at hl 2 rfl) ?_
  refine lv_aload_n hx hb dL_law_447 rfl (lv_at hl 0 rfl) ?_
  refine lv_iload hx hb dL_law_448 (lv_at hl 4 rfl) ?_
  refine lv_iconst (v := nI 1) hx hb dL_law_450 (by decide) ?_
  refine nadd hx hb dL_law_451 ?_
  refine scr hx hb hXs hbl hS hL (j := i + 1) (by omega) dL_law_452 ?_
  refine goVI2 (X := [oc ob k ov]) (X2 := w2) (B := MoW mq k tr ck hd po th we bu tg' se' gr ba tn sn un ow fi sz so wr dn ur dl sl le) hc (kX3_order l D k mq H.size tr ck hd po th we bu tg' se' gr ba tn sn un ow fi sz so wr dn ur dl sl le (xs (i + 1)) hsn5) (cwV 1 hts gL_law_X3_order rfl rfl rfl (by decide +kernel) ⟨(Nat.le_of_ble_eq_true rfl), (Nat.le_of_ble_eq_true rfl)⟩) hP hD hK hS hA (ci := 3) (q0 := 0) rfl rfl rfl hl.1 rfl (Nat.le_of_ble_eq_true rfl) dL_law_453 (by omega) (by omega) (fun b9 wM2 H locs hm hP hD hS => ?_)
  have hP : va_P D vwCl (oc ob k ov :: (w2 ++ wM2)) H := hP
  have hD : va_D (LA s) (oc ob k ov :: (w2 ++ wM2)) := hD
  obtain ⟨e1, hI9⟩ := op_order R J HH hq hm
  have hI2 : INV d cq rq mq k (nI 0) w2 wM2 ∧ True := ⟨hI9, trivial⟩
  refine lv_icmp_eq (tgt := 609) hx hb dL_law_456 (by decide) (fun _ => ?_) (fun c9 => absurd e1 c9)
  exact W.widen (k := cells + 3) (n := slots + 18) (by omega) (by omega) (kk H locs ls ⟨_, _, _, _, hI2.1, hP, hD, hS, lv_sub hl [0, 1, 2, 3, 4] rfl⟩)
set_option maxHeartbeats 4000000 in
set_option maxRecDepth 100000 in
theorem st_tag (hX : LX p l s m meth c D k b L xs) (hi : i + 6 ≤ L) (hcb : cells + 3 ≤ room_1.cells) (hsb : slots + 18 ≤ room_1.slots) (kk : KC p l e s m below meth c Z D k d ob cq rq mq b i (cells + 3) (slots + 18)) (H : Heap) (locs : List Loc) (ls : Array Slot) (h : LPs D k s d ob cq rq mq b i H locs ls) : W p l e room_1 s m [Value.ref b].toArray below meth c H locs cells slots Z (F0 m 461 ls []) := by
  obtain ⟨hc, hK, hZ, hN, hXs, hbl, hL, hl0⟩ := hX
  obtain ⟨hx, hb, hml, hr, hts, hown, hlocks, hin⟩ := (show _ from hc)
  have hA : ∀ q, s.heap.size ≤ q → LA s q := fun q h => h
  obtain ⟨tr, wC, wM, ov, hI, hP, hD, hS, hl⟩ := h
  obtain ⟨ck, hd, po, st, sl, le, th, co, bu, tg, wa, se, ld, ow, wr, fi, sz, dl, wt, bl, sh, so, tn, sn, un, we, tg', se', gr, ba, dn, ur, rfl, rfl, R, J, HH⟩ := hI
  have hsn : sn ≤ tn := by rw [R.2.1]; exact dcN_le dn tn
  have hsn5 : sn ≤ 500 := Nat.le_trans hsn R.1
  refine lv_aload_n hx hb dL_law_461 rfl (lv_at hl 1 rfl) ?_
  refine lv_aload_n hx hb dL_law_462 rfl (lv_at hl 0 rfl) ?_
  refine lv_iload hx hb dL_law_463 (lv_at hl 4 rfl) ?_
  refine lv_iconst (v := nI 1) hx hb dL_law_465 (by decide) ?_
  refine nadd hx hb dL_law_466 ?_
  refine scr hx hb hXs hbl hS hL (j := i + 1) (by omega) dL_law_467 ?_
  refine lv_aload_n hx hb dL_law_468 rfl (lv_at hl 3 rfl) ?_
  refine goH (X := []) (B := oc ob k ov :: (DkW d (cq 0) (rq 0) ck hd po st sl le ++ (ClW cq k th co bu tg wa se ld ++ RqW rq k ow wr fi sz dl wt bl sh so tn sn un))) (Y := MoW mq k tr ck hd po th we bu tg' se' gr ba tn sn un ow fi sz so wr dn ur dl sl le) hc (kL_tag rfl (fun z9 => kX2_tag l D k d cq rq z9 ck hd po st sl le th co bu tg wa se ld ow wr fi sz dl wt bl sh so tn sn un (xs (i + 1)) J.1 hl0) (fun E w h => h.1) H.size) (vx_cwSW 3 hts gL_law_L_tag rfl rfl rfl (by decide +kernel) ⟨(Nat.le_of_ble_eq_true rfl), (Nat.le_of_ble_eq_true rfl)⟩) hP hD hK hZ hN hS hA rfl hl.1 rfl (Nat.le_of_ble_eq_true rfl) dL_law_469 (by omega) (by omega) (fun r9 B9 H locs hq hP hD hS => ?_)
  obtain ⟨ov2, w2, rfl, hq⟩ := hq
  have hP : va_P D vwCl (oc ob k ov2 :: (w2 ++ MoW mq k tr ck hd po th we bu tg' se' gr ba tn sn un ow fi sz so wr dn ur dl sl le)) H := hP
  have hD : va_D (LA s) (oc ob k ov2 :: (w2 ++ MoW mq k tr ck hd po th we bu tg' se' gr ba tn sn un ow fi sz so wr dn ur dl sl le)) := hD
  refine lv_istore (lv' := [(5, .int r9), (0, .ref b), (1, .ref d), (2, .ref (mq 0)), (3, .ref ob), (4, .int (nI i))]) hx hb dL_law_472 hl (by decide) rfl (fun ls hl => ?_)
  refine lv_aload_n hx hb dL_law_474 rfl (lv_at hl 3 rfl) ?_
  refine lv_aload_n hx hb dL_law_475 rfl (lv_at hl 1 rfl) ?_
  refine lv_iload hx hb dL_law_476 (lv_at hl 5 rfl) ?_
  refine lv_iconst (v := nI 1) hx hb dL_law_478 (by decide) ?_
  refine nadd hx hb dL_law_479 ?_
  refine scr hx hb hXs hbl hS hL (j := i + 1) (by omega) dL_law_480 ?_
  refine goVL2 (X := [oc ob k ov2]) (X2 := w2) (B := MoW mq k tr ck hd po th we bu tg' se' gr ba tn sn un ow fi sz so wr dn ur dl sl le) hc (kX3_tag l D k mq H.size tr ck hd po th we bu tg' se' gr ba tn sn un ow fi sz so wr dn ur dl sl le (xs (i + 1)) ) (cwV 1 hts gL_law_X3_tag rfl rfl rfl (by decide +kernel) ⟨(Nat.le_of_ble_eq_true rfl), (Nat.le_of_ble_eq_true rfl)⟩) hP hD hK hS hA (ci := 3) (q0 := 0) rfl rfl rfl hl.1 rfl (Nat.le_of_ble_eq_true rfl) dL_law_481 (by omega) (by omega) (fun b9 wM2 H locs hm hP hD hS => ?_)
  have hP : va_P D vwCl (oc ob k ov2 :: (w2 ++ wM2)) H := hP
  have hD : va_D (LA s) (oc ob k ov2 :: (w2 ++ wM2)) := hD
  have hI2 : INV d cq rq mq k r9 w2 wM2 ∧ (r9 = nI 0 → ov2 0 = b9) := by
    rcases hq with ⟨rfl, hq⟩ | ⟨rfl, hq⟩
    · obtain ⟨e1, e2⟩ := op_tag R J HH hq hm
      exact ⟨e2, fun _ => e1⟩
    · exact ⟨op_tag_x R J HH hq hm, fun h => absurd h (by decide)⟩
  refine lv_lstore (lv' := [(6, .long b9), (5, .int r9), (0, .ref b), (1, .ref d), (2, .ref (mq 0)), (3, .ref ob), (4, .int (nI i))]) hx hb dL_law_484 hl (by decide) rfl (fun ls hl => ?_)
  refine lv_aload_n hx hb dL_law_486 rfl (lv_at hl 4 rfl) ?_
  obtain ⟨fs9, hfs9⟩ := INV_m0 hI2.1
  refine goVI2 (X := [oc ob k ov2]) (X2 := w2) (B := wM2) hc (INV_thrown l D hI2.1 H.size) (cwV 0 hts gL_law_X3_thrown rfl rfl rfl (by decide +kernel) ⟨(Nat.le_of_ble_eq_true rfl), (Nat.le_of_ble_eq_true rfl)⟩) hP hD hK hS hA (ci := 3) (q0 := 0) rfl hfs9 rfl hl.1 rfl (Nat.le_of_ble_eq_true rfl) dL_law_487 (by omega) (by omega) (fun t9 B9 H locs ht9 hP hD hS => ?_)
  rw [ht9.2] at hP hD
  rw [ht9.1]
  have hP : va_P D vwCl (oc ob k ov2 :: (w2 ++ wM2)) H := hP
  have hD : va_D (LA s) (oc ob k ov2 :: (w2 ++ wM2)) := hD
  refine lv_iload hx hb dL_law_490 (lv_at hl 1 rfl) ?_
  refine lv_icmp_eq (tgt := 497) hx hb dL_law_492 (by decide) (fun _ => ?_) (fun c9 => absurd rfl c9)
  refine lv_iload hx hb dL_law_497 (lv_at hl 1 rfl) ?_
  refine lv_if_ne (tgt := 513) hx hb dL_law_499 (by decide) (fun c3 => ?_) (fun c3 => ?_)
  · refine lv_goto (tgt := 609) hx hb dL_law_513 (by decide) ?_
    exact W.widen (k := cells + 3) (n := slots + 18) (by omega) (by omega) (kk H locs ls ⟨_, _, _, _, hI2.1, hP, hD, hS, lv_sub hl [2, 3, 4, 5, 6] rfl⟩)
  have hov := hI2.2 c3
  refine lv_aload_n hx hb dL_law_502 rfl (lv_at hl 5 rfl) ?_
  refine lv_iconst (v := nI 0) hx hb dL_law_503 (by decide) ?_
  refine aJ hx hb hK hP 0 2 rfl rfl (ixN (j := 0) (n := 1) (by decide) (by decide)) dL_law_504 ?_
  refine lv_lload hx hb dL_law_505 (lv_at hl 0 rfl) ?_
  refine W.lcmp hx hb dL_law_507 ?_
  refine lv_if_eq (tgt := 513) hx hb dL_law_508 (by decide) (fun _ => ?_) (fun c9 => absurd ((lg_cmp_eq _ _).mpr hov) c9)
  refine lv_goto (tgt := 609) hx hb dL_law_513 (by decide) ?_
  exact W.widen (k := cells + 3) (n := slots + 18) (by omega) (by omega) (kk H locs ls ⟨_, _, _, _, hI2.1, hP, hD, hS, lv_sub hl [2, 3, 4, 5, 6] rfl⟩)
set_option maxHeartbeats 4000000 in
set_option maxRecDepth 100000 in
theorem st_lag (hX : LX p l s m meth c D k b L xs) (hi : i + 6 ≤ L) (hcb : cells + 3 ≤ room_1.cells) (hsb : slots + 18 ≤ room_1.slots) (kk : KC p l e s m below meth c Z D k d ob cq rq mq b i (cells + 3) (slots + 18)) (H : Heap) (locs : List Loc) (ls : Array Slot) (h : LPs D k s d ob cq rq mq b i H locs ls) : W p l e room_1 s m [Value.ref b].toArray below meth c H locs cells slots Z (F0 m 516 ls []) := by
  obtain ⟨hc, hK, hZ, hN, hXs, hbl, hL, hl0⟩ := hX
  obtain ⟨hx, hb, hml, hr, hts, hown, hlocks, hin⟩ := (show _ from hc)
  have hA : ∀ q, s.heap.size ≤ q → LA s q := fun q h => h
  obtain ⟨tr, wC, wM, ov, hI, hP, hD, hS, hl⟩ := h
  obtain ⟨ck, hd, po, st, sl, le, th, co, bu, tg, wa, se, ld, ow, wr, fi, sz, dl, wt, bl, sh, so, tn, sn, un, we, tg', se', gr, ba, dn, ur, rfl, rfl, R, J, HH⟩ := hI
  have hsn : sn ≤ tn := by rw [R.2.1]; exact dcN_le dn tn
  have hsn5 : sn ≤ 500 := Nat.le_trans hsn R.1
  refine lv_aload_n hx hb dL_law_516 rfl (lv_at hl 1 rfl) ?_
  refine lv_aload_n hx hb dL_law_517 rfl (lv_at hl 0 rfl) ?_
  refine lv_iload hx hb dL_law_518 (lv_at hl 4 rfl) ?_
  refine lv_iconst (v := nI 1) hx hb dL_law_520 (by decide) ?_
  refine nadd hx hb dL_law_521 ?_
  refine scr hx hb hXs hbl hS hL (j := i + 1) (by omega) dL_law_522 ?_
  refine lv_aload_n hx hb dL_law_523 rfl (lv_at hl 0 rfl) ?_
  refine lv_iload hx hb dL_law_524 (lv_at hl 4 rfl) ?_
  refine lv_iconst (v := nI 2) hx hb dL_law_526 (by decide) ?_
  refine nadd hx hb dL_law_527 ?_
  refine scr hx hb hXs hbl hS hL (j := i + 2) (by omega) dL_law_528 ?_
  refine lv_aload_n hx hb dL_law_529 rfl (lv_at hl 3 rfl) ?_
  refine goH (X := []) (B := oc ob k ov :: (DkW d (cq 0) (rq 0) ck hd po st sl le ++ (ClW cq k th co bu tg wa se ld ++ RqW rq k ow wr fi sz dl wt bl sh so tn sn un))) (Y := MoW mq k tr ck hd po th we bu tg' se' gr ba tn sn un ow fi sz so wr dn ur dl sl le) hc (kL_lag rfl (fun z9 => kX2_lag l D k d cq rq z9 ck hd po st sl le th co bu tg wa se ld ow wr fi sz dl wt bl sh so tn sn un (xs (i + 1)) (xs (i + 2)) J.1 hl0) (fun E w h => h.1) H.size) (vx_cwSW 4 hts gL_law_L_lag rfl rfl rfl (by decide +kernel) ⟨(Nat.le_of_ble_eq_true rfl), (Nat.le_of_ble_eq_true rfl)⟩) hP hD hK hZ hN hS hA rfl hl.1 rfl (Nat.le_of_ble_eq_true rfl) dL_law_530 (by omega) (by omega) (fun r9 B9 H locs hq hP hD hS => ?_)
  obtain ⟨ov2, w2, rfl, hq⟩ := hq
  have hP : va_P D vwCl (oc ob k ov2 :: (w2 ++ MoW mq k tr ck hd po th we bu tg' se' gr ba tn sn un ow fi sz so wr dn ur dl sl le)) H := hP
  have hD : va_D (LA s) (oc ob k ov2 :: (w2 ++ MoW mq k tr ck hd po th we bu tg' se' gr ba tn sn un ow fi sz so wr dn ur dl sl le)) := hD
  refine lv_istore (lv' := [(5, .int r9), (0, .ref b), (1, .ref d), (2, .ref (mq 0)), (3, .ref ob), (4, .int (nI i))]) hx hb dL_law_533 hl (by decide) rfl (fun ls hl => ?_)
  refine lv_aload_n hx hb dL_law_535 rfl (lv_at hl 3 rfl) ?_
  refine lv_aload_n hx hb dL_law_536 rfl (lv_at hl 1 rfl) ?_
  refine lv_iload hx hb dL_law_537 (lv_at hl 5 rfl) ?_
  refine lv_iconst (v := nI 1) hx hb dL_law_539 (by decide) ?_
  refine nadd hx hb dL_law_540 ?_
  refine scr hx hb hXs hbl hS hL (j := i + 1) (by omega) dL_law_541 ?_
  refine lv_aload_n hx hb dL_law_542 rfl (lv_at hl 1 rfl) ?_
  refine lv_iload hx hb dL_law_543 (lv_at hl 5 rfl) ?_
  refine lv_iconst (v := nI 2) hx hb dL_law_545 (by decide) ?_
  refine nadd hx hb dL_law_546 ?_
  refine scr hx hb hXs hbl hS hL (j := i + 2) (by omega) dL_law_547 ?_
  refine goVL2 (X := [oc ob k ov2]) (X2 := w2) (B := MoW mq k tr ck hd po th we bu tg' se' gr ba tn sn un ow fi sz so wr dn ur dl sl le) hc (kX3_lag l D k mq H.size tr ck hd po th we bu tg' se' gr ba tn sn un ow fi sz so wr dn ur dl sl le (xs (i + 1)) (xs (i + 2)) R.1) (cwV 2 hts gL_law_X3_lag rfl rfl rfl (by decide +kernel) ⟨(Nat.le_of_ble_eq_true rfl), (Nat.le_of_ble_eq_true rfl)⟩) hP hD hK hS hA (ci := 3) (q0 := 0) rfl rfl rfl hl.1 rfl (Nat.le_of_ble_eq_true rfl) dL_law_548 (by omega) (by omega) (fun b9 wM2 H locs hm hP hD hS => ?_)
  have hP : va_P D vwCl (oc ob k ov2 :: (w2 ++ wM2)) H := hP
  have hD : va_D (LA s) (oc ob k ov2 :: (w2 ++ wM2)) := hD
  have hI2 : INV d cq rq mq k r9 w2 wM2 ∧ (r9 = nI 0 → ov2 0 = b9) := by
    rcases hq with ⟨rfl, hq⟩ | ⟨rfl, hq⟩
    · obtain ⟨e1, e2⟩ := op_lag R J HH hq hm
      exact ⟨e2, fun _ => e1⟩
    · exact ⟨op_lag_x R J HH hq hm, fun h => absurd h (by decide)⟩
  refine lv_lstore (lv' := [(6, .long b9), (5, .int r9), (0, .ref b), (1, .ref d), (2, .ref (mq 0)), (3, .ref ob), (4, .int (nI i))]) hx hb dL_law_551 hl (by decide) rfl (fun ls hl => ?_)
  refine lv_aload_n hx hb dL_law_553 rfl (lv_at hl 4 rfl) ?_
  obtain ⟨fs9, hfs9⟩ := INV_m0 hI2.1
  refine goVI2 (X := [oc ob k ov2]) (X2 := w2) (B := wM2) hc (INV_thrown l D hI2.1 H.size) (cwV 0 hts gL_law_X3_thrown rfl rfl rfl (by decide +kernel) ⟨(Nat.le_of_ble_eq_true rfl), (Nat.le_of_ble_eq_true rfl)⟩) hP hD hK hS hA (ci := 3) (q0 := 0) rfl hfs9 rfl hl.1 rfl (Nat.le_of_ble_eq_true rfl) dL_law_554 (by omega) (by omega) (fun t9 B9 H locs ht9 hP hD hS => ?_)
  rw [ht9.2] at hP hD
  rw [ht9.1]
  have hP : va_P D vwCl (oc ob k ov2 :: (w2 ++ wM2)) H := hP
  have hD : va_D (LA s) (oc ob k ov2 :: (w2 ++ wM2)) := hD
  refine lv_iload hx hb dL_law_557 (lv_at hl 1 rfl) ?_
  refine lv_icmp_eq (tgt := 564) hx hb dL_law_559 (by decide) (fun _ => ?_) (fun c9 => absurd rfl c9)
  refine lv_iload hx hb dL_law_564 (lv_at hl 1 rfl) ?_
  refine lv_if_ne (tgt := 580) hx hb dL_law_566 (by decide) (fun c3 => ?_) (fun c3 => ?_)
  · refine lv_goto (tgt := 609) hx hb dL_law_580 (by decide) ?_
    exact W.widen (k := cells + 3) (n := slots + 18) (by omega) (by omega) (kk H locs ls ⟨_, _, _, _, hI2.1, hP, hD, hS, lv_sub hl [2, 3, 4, 5, 6] rfl⟩)
  have hov := hI2.2 c3
  refine lv_aload_n hx hb dL_law_569 rfl (lv_at hl 5 rfl) ?_
  refine lv_iconst (v := nI 0) hx hb dL_law_570 (by decide) ?_
  refine aJ hx hb hK hP 0 2 rfl rfl (ixN (j := 0) (n := 1) (by decide) (by decide)) dL_law_571 ?_
  refine lv_lload hx hb dL_law_572 (lv_at hl 0 rfl) ?_
  refine W.lcmp hx hb dL_law_574 ?_
  refine lv_if_eq (tgt := 580) hx hb dL_law_575 (by decide) (fun _ => ?_) (fun c9 => absurd ((lg_cmp_eq _ _).mpr hov) c9)
  refine lv_goto (tgt := 609) hx hb dL_law_580 (by decide) ?_
  exact W.widen (k := cells + 3) (n := slots + 18) (by omega) (by omega) (kk H locs ls ⟨_, _, _, _, hI2.1, hP, hD, hS, lv_sub hl [2, 3, 4, 5, 6] rfl⟩)
set_option maxHeartbeats 4000000 in
set_option maxRecDepth 100000 in
theorem st_count (hX : LX p l s m meth c D k b L xs) (hi : i + 6 ≤ L) (hcb : cells + 3 ≤ room_1.cells) (hsb : slots + 18 ≤ room_1.slots) (kk : KC p l e s m below meth c Z D k d ob cq rq mq b i (cells + 3) (slots + 18)) (H : Heap) (locs : List Loc) (ls : Array Slot) (h : LPs D k s d ob cq rq mq b i H locs ls) : W p l e room_1 s m [Value.ref b].toArray below meth c H locs cells slots Z (F0 m 583 ls []) := by
  obtain ⟨hc, hK, hZ, hN, hXs, hbl, hL, hl0⟩ := hX
  obtain ⟨hx, hb, hml, hr, hts, hown, hlocks, hin⟩ := (show _ from hc)
  have hA : ∀ q, s.heap.size ≤ q → LA s q := fun q h => h
  obtain ⟨tr, wC, wM, ov, hI, hP, hD, hS, hl⟩ := h
  obtain ⟨ck, hd, po, st, sl, le, th, co, bu, tg, wa, se, ld, ow, wr, fi, sz, dl, wt, bl, sh, so, tn, sn, un, we, tg', se', gr, ba, dn, ur, rfl, rfl, R, J, HH⟩ := hI
  have hsn : sn ≤ tn := by rw [R.2.1]; exact dcN_le dn tn
  have hsn5 : sn ≤ 500 := Nat.le_trans hsn R.1
  refine lv_aload_n hx hb dL_law_583 rfl (lv_at hl 1 rfl) ?_
  refine lv_aload_n hx hb dL_law_584 rfl (lv_at hl 0 rfl) ?_
  refine lv_iload hx hb dL_law_585 (lv_at hl 4 rfl) ?_
  refine lv_iconst (v := nI 1) hx hb dL_law_587 (by decide) ?_
  refine nadd hx hb dL_law_588 ?_
  refine scr hx hb hXs hbl hS hL (j := i + 1) (by omega) dL_law_589 ?_
  refine goVL (X := [oc ob k ov]) (B := DkW d (cq 0) (rq 0) ck hd po st sl le ++ (ClW cq k th co bu tg wa se ld ++ RqW rq k ow wr fi sz dl wt bl sh so tn sn un)) (Y := MoW mq k tr ck hd po th we bu tg' se' gr ba tn sn un ow fi sz so wr dn ur dl sl le) hc (kX2_count l D k d cq rq H.size ck hd po st sl le th co bu tg wa se ld ow wr fi sz dl wt bl sh so tn sn un (xs (i + 1)) hsn) (cwV 1 hts gL_law_X2_count rfl rfl rfl (by decide +kernel) ⟨(Nat.le_of_ble_eq_true rfl), (Nat.le_of_ble_eq_true rfl)⟩) hP hD hK hS hA (ci := 2) (q0 := 0) rfl rfl rfl hl.1 rfl (Nat.le_of_ble_eq_true rfl) dL_law_590 (by omega) (by omega) (fun r9 w2 H locs hq hP hD hS => ?_)
  have hP : va_P D vwCl (oc ob k ov :: (w2 ++ MoW mq k tr ck hd po th we bu tg' se' gr ba tn sn un ow fi sz so wr dn ur dl sl le)) H := hP
  have hD : va_D (LA s) (oc ob k ov :: (w2 ++ MoW mq k tr ck hd po th we bu tg' se' gr ba tn sn un ow fi sz so wr dn ur dl sl le)) := hD
  refine lv_aload_n hx hb dL_law_593 rfl (lv_at hl 2 rfl) ?_
  refine lv_aload_n hx hb dL_law_594 rfl (lv_at hl 0 rfl) ?_
  refine lv_iload hx hb dL_law_595 (lv_at hl 4 rfl) ?_
  refine lv_iconst (v := nI 1) hx hb dL_law_597 (by decide) ?_
  refine nadd hx hb dL_law_598 ?_
  refine scr hx hb hXs hbl hS hL (j := i + 1) (by omega) dL_law_599 ?_
  refine goVL2 (X := [oc ob k ov]) (X2 := w2) (B := MoW mq k tr ck hd po th we bu tg' se' gr ba tn sn un ow fi sz so wr dn ur dl sl le) hc (kX3_count l D k mq H.size tr ck hd po th we bu tg' se' gr ba tn sn un ow fi sz so wr dn ur dl sl le (xs (i + 1)) R.1) (cwV 1 hts gL_law_X3_count rfl rfl rfl (by decide +kernel) ⟨(Nat.le_of_ble_eq_true rfl), (Nat.le_of_ble_eq_true rfl)⟩) hP hD hK hS hA (ci := 3) (q0 := 0) rfl rfl rfl hl.1 rfl (Nat.le_of_ble_eq_true rfl) dL_law_600 (by omega) (by omega) (fun b9 wM2 H locs hm hP hD hS => ?_)
  have hP : va_P D vwCl (oc ob k ov :: (w2 ++ wM2)) H := hP
  have hD : va_D (LA s) (oc ob k ov :: (w2 ++ wM2)) := hD
  obtain ⟨e1, hI9⟩ := op_count R J HH hq hm
  have hI2 : INV d cq rq mq k (nI 0) w2 wM2 ∧ True := ⟨hI9, trivial⟩
  refine W.lcmp hx hb dL_law_603 ?_
  refine lv_if_eq (tgt := 609) hx hb dL_law_604 (by decide) (fun _ => ?_) (fun c9 => absurd ((lg_cmp_eq _ _).mpr e1) c9)
  exact W.widen (k := cells + 3) (n := slots + 18) (by omega) (by omega) (kk H locs ls ⟨_, _, _, _, hI2.1, hP, hD, hS, lv_sub hl [0, 1, 2, 3, 4] rfl⟩)
end LAW
