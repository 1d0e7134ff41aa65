/-! The law's loop. -/
theorem and15 (v : Int32) : ∃ j, j < 16 ∧ v &&& nI 15 = nI j := by
  refine ⟨(v &&& nI 15).toBitVec.toNat, ?_, ?_⟩
  · rw [Int32.toBitVec_and, BitVec.toNat_and]
    exact Nat.lt_of_le_of_lt Nat.and_le_right (by decide)
  · apply Int32.toBitVec_inj.mp
    show _ = BitVec.ofNat 32 _
    rw [BitVec.ofNat_toNat, BitVec.setWidth_eq]
theorem lp_six {L t : Nat} (hL : L ≤ 3072) (h6 : 6 * t ≤ L) (hc : ¬ (nI L - nI 6 < nI (6 * t))) : 6 * t + 6 ≤ L := by
  by_cases h : L < 6
  · exfalso
    have ht : t = 0 := by omega
    subst ht
    apply hc
    rcases (show L = 0 ∨ L = 1 ∨ L = 2 ∨ L = 3 ∨ L = 4 ∨ L = 5 by omega) with h | h | h | h | h | h <;> subst h <;> decide
  · rw [pk_sub (by omega)] at hc
    exact Classical.byContradiction fun q => hc (nI_lt (by omega) (by omega))
section LOOP
variable {p : Program} {l : Launch} {e : Env} {s : State} {m : MethodId} {below : List Frame} {meth : Method} {c : Code} {Z : State → Prop} {D : va_G} {k : Nat → ClassId} {b L : Nat} {xs : Nat → Int32} {d ob : Nat} {cq rq mq : Nat → Nat}
set_option maxHeartbeats 4000000 in
set_option maxRecDepth 100000 in
theorem lw_loop (hX : LX p l s m meth c D k b L xs) (hfin : ∀ (H : Heap) (locs : List Loc) (ls : Array Slot) (cells slots : Nat), va_S (LA s) s.heap H locs → cells ≤ 601024 → slots ≤ 7293034 → W p l e room_1 s m [Value.ref b].toArray below meth c H locs cells slots Z (F0 m 615 ls [])) :
    ∀ (n t : Nat), L - 6 * t < n → 6 * t ≤ L → ∀ (H : Heap) (locs : List Loc) (ls : Array Slot), LPs D k s d ob cq rq mq b (6 * t) H locs ls → W p l e room_1 s m [Value.ref b].toArray below meth c H locs (44 + 3 * t) (8785 + 18 * t) Z (F0 m 23 ls []) := by
  intro n
  induction n with
  | zero => intro t hn; exact absurd hn (Nat.not_lt_zero _)
  | succ n ih =>
    intro t hn h6 H locs ls h
    obtain ⟨hc, hK, hZ, hN, hXs, hbl, hL, hl0⟩ := id hX
    obtain ⟨hx, hb, hml, hr, hts, hown, hlocks, hin⟩ := (show _ from hc)
    obtain ⟨tr, wC, wM, ov, hI, hP, hD, hS, hl⟩ := id h
    refine lv_iload hx hb dL_law_23 (lv_at hl 4 rfl) ?_
    refine lv_aload_n hx hb dL_law_25 rfl (lv_at hl 0 rfl) ?_
    refine va_slen hx hb hXs hbl (fun q => absurd hbl (Nat.not_lt.mpr q)) hS dL_law_26 ?_
    refine lv_bipush (v := nI 6) hx hb dL_law_27 (by decide) ?_
    refine lv_isub hx hb dL_law_29 ?_
    refine lv_icmp_gt (tgt := 615) hx hb dL_law_30 (by decide) (fun _ => hfin H locs ls _ _ hS (by omega) (by omega)) (fun c1 => ?_)
    have hi : 6 * t + 6 ≤ L := lp_six hL h6 c1
    refine lv_aload_n hx hb dL_law_33 rfl (lv_at hl 0 rfl) ?_
    refine lv_iload hx hb dL_law_34 (lv_at hl 4 rfl) ?_
    refine scr hx hb hXs hbl hS hL (j := 6 * t) (by omega) dL_law_36 ?_
    refine lv_bipush (v := nI 15) hx hb dL_law_37 (by decide) ?_
    refine lv_iand hx hb dL_law_39 ?_
    have hcb : 44 + 3 * t + 3 ≤ room_1.cells := by show 44 + 3 * t + 3 ≤ 601024; omega
    have hsb : 8785 + 18 * t + 18 ≤ room_1.slots := by show 8785 + 18 * t + 18 ≤ 7293034; omega
    have kk : KC p l e s m below meth c Z D k d ob cq rq mq b (6 * t) (44 + 3 * t + 3) (8785 + 18 * t + 18) := by
      intro H locs ls h
      obtain ⟨tr, wC, wM, ov, hI, hP, hD, hS, hl⟩ := h
      refine lv_iinc (v := nI (6 * (t + 1))) (lv' := [(4, .int (nI (6 * (t + 1)))), (0, .ref b), (1, .ref d), (2, .ref (mq 0)), (3, .ref ob)]) hx hb dL_law_609 hl (k := 4) rfl (by rw [show Int32.ofInt 6 = nI 6 by decide, nI_add]; rfl) (by decide) rfl (fun ls hl => ?_)
      refine lv_goto (tgt := 23) hx hb dL_law_612 (by decide) ?_
      exact W.widen (by omega) (by omega) (ih (t + 1) (by omega) (by omega) H locs ls ⟨tr, wC, wM, ov, hI, hP, hD, hS, lv_sub hl [1, 2, 3, 4, 0] rfl⟩)
    obtain ⟨j, hj, ej⟩ := and15 (xs (6 * t))
    rw [ej]
    rcases (show j = 0 ∨ j = 1 ∨ j = 2 ∨ j = 3 ∨ j = 4 ∨ j = 5 ∨ j = 6 ∨ j = 7 ∨ j = 8 ∨ j = 9 ∨ j = 10 ∨ j = 11 ∨ j = 12 ∨ j = 13 ∨ j = 14 ∨ j = 15 by omega) with hj | hj | hj | hj | hj | hj | hj | hj | hj | hj | hj | hj | hj | hj | hj | hj
    · subst hj
      refine lv_tableIn (tgt := 96) hx hb dL_law_40 (by decide) (by decide) (off := 56) (by decide) (by decide) ?_
      exact st_client hX hi hcb hsb kk H locs ls h
    · subst hj
      refine lv_tableIn (tgt := 156) hx hb dL_law_40 (by decide) (by decide) (off := 116) (by decide) (by decide) ?_
      exact st_gone hX hi hcb hsb kk H locs ls h
    · subst hj
      refine lv_tableIn (tgt := 192) hx hb dL_law_40 (by decide) (by decide) (off := 152) (by decide) (by decide) ?_
      exact st_submit hX hi hcb hsb kk H locs ls h
    · subst hj
      refine lv_tableIn (tgt := 312) hx hb dL_law_40 (by decide) (by decide) (off := 272) (by decide) (by decide) ?_
      exact st_dispatch hX hi hcb hsb kk H locs ls h
    · subst hj
      refine lv_tableIn (tgt := 325) hx hb dL_law_40 (by decide) (by decide) (off := 285) (by decide) (by decide) ?_
      exact st_pass hX hi hcb hsb kk H locs ls h
    · subst hj
      refine lv_tableIn (tgt := 380) hx hb dL_law_40 (by decide) (by decide) (off := 340) (by decide) (by decide) ?_
      exact st_state hX hi hcb hsb kk H locs ls h
    · subst hj
      refine lv_tableIn (tgt := 436) hx hb dL_law_40 (by decide) (by decide) (off := 396) (by decide) (by decide) ?_
      exact st_order hX hi hcb hsb kk H locs ls h
    · subst hj
      refine lv_tableIn (tgt := 461) hx hb dL_law_40 (by decide) (by decide) (off := 421) (by decide) (by decide) ?_
      exact st_tag hX hi hcb hsb kk H locs ls h
    · subst hj
      refine lv_tableIn (tgt := 516) hx hb dL_law_40 (by decide) (by decide) (off := 476) (by decide) (by decide) ?_
      exact st_lag hX hi hcb hsb kk H locs ls h
    · subst hj
      refine lv_tableIn (tgt := 583) hx hb dL_law_40 (by decide) (by decide) (off := 543) (by decide) (by decide) ?_
      exact st_count hX hi hcb hsb kk H locs ls h
    · subst hj
      refine lv_tableOut (tgt := 609) hx hb dL_law_40 (by decide) (by decide) ?_
      exact W.widen (by omega) (by omega) (kk H locs ls h)
    · subst hj
      refine lv_tableOut (tgt := 609) hx hb dL_law_40 (by decide) (by decide) ?_
      exact W.widen (by omega) (by omega) (kk H locs ls h)
    · subst hj
      refine lv_tableOut (tgt := 609) hx hb dL_law_40 (by decide) (by decide) ?_
      exact W.widen (by omega) (by omega) (kk H locs ls h)
    · subst hj
      refine lv_tableOut (tgt := 609) hx hb dL_law_40 (by decide) (by decide) ?_
      exact W.widen (by omega) (by omega) (kk H locs ls h)
    · subst hj
      refine lv_tableOut (tgt := 609) hx hb dL_law_40 (by decide) (by decide) ?_
      exact W.widen (by omega) (by omega) (kk H locs ls h)
    · subst hj
      refine lv_tableOut (tgt := 609) hx hb dL_law_40 (by decide) (by decide) ?_
      exact W.widen (by omega) (by omega) (kk H locs ls h)
end LOOP
