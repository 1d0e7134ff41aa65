/-! What each call does to the tie. -/
theorem nI01 : nI 1 = (1 : Int32) := rfl
theorem nI00 : nI 0 = (0 : Int32) := rfl
section SUBMIT
variable {th co : Nat → Int32} {tg : Nat → Int64} {wa se : Nat → Int32} {ld : Nat → Nat → Int64} {ow wr fi sz wt bl sh : Nat → Int32} {st : Int64} {sl : Int32} {tn sn : Nat} {we : Nat → Int32} {tg' se' gr ba : Nat → Int64} {dn ur : Nat → Int32}
theorem mkO_upd {x y u v : Int32} {a t : Nat} (ha : a < tn) (ht : t < tn) : mkO (upd ow tn x) (upd wr tn y) (upd fi tn u) (upd sz tn v) a t ↔ mkO ow wr fi sz a t := by
  unfold mkO
  rw [pk_un (by omega), pk_un (by omega), pk_un (by omega), pk_un (by omega), pk_un (by omega), pk_un (by omega), pk_un (by omega), pk_un (by omega)]
theorem JR_add (J : JR ow wr fi sz wt bl sh tn sn dn ur) (ht : tn < 500) {x y : Int32} {f c : Nat} (h1 : 1 ≤ c) (h2 : c ≤ 64) (h3 : f + c ≤ 100000) :
    JR (upd ow tn x) (upd wr tn y) (upd fi tn (nI f)) (upd sz tn (nI c)) (upd wt tn (nI 1)) (adB (upd ow tn x) (upd wr tn y) (upd fi tn (nI f)) (upd sz tn (nI c)) (upd wt tn (nI 1)) bl tn tn) sh (tn + 1) sn dn ur := by
  obtain ⟨-, hs, hR, hD, hN, hB⟩ := J
  have hw : ∀ u, u < tn → (¬ upd wt tn (nI 1) u = 0 ↔ dn u = 0) := by
    intro u hu
    rw [pk_un (by omega)]
    rcases hD u hu with ⟨a, b⟩ | ⟨a, b, -⟩
    · rw [a, b]; exact ⟨fun _ => rfl, fun _ => i1_0⟩
    · rw [a, b]; exact ⟨fun q => absurd rfl q, fun q => absurd q i1_0⟩
  refine ⟨by omega, ?_, ?_, ?_, ?_, ?_⟩
  · rw [dcN, if_pos (hN tn (Nat.le_refl _)).1]; exact hs
  · intro t h
    by_cases e : t = tn
    · subst e; exact ⟨f, c, h1, h2, h3, pk_us, pk_us⟩
    · obtain ⟨f0, c0, g1, g2, g3, g4, g5⟩ := hR t (by omega)
      exact ⟨f0, c0, g1, g2, g3, by rw [pk_un e]; exact g4, by rw [pk_un e]; exact g5⟩
  · intro t h
    by_cases e : t = tn
    · subst e; exact Or.inl ⟨(hN t (Nat.le_refl _)).1, pk_us⟩
    · have := hD t (by omega)
      unfold DT at this ⊢
      rw [pk_un e]; exact this
  · intro t h
    refine ⟨(hN t (by omega)).1, ?_⟩
    rw [adB_at (dn := dn) tn hw, if_neg (by omega)]
    exact (hN t (by omega)).2
  · intro t h
    rw [adB_at (dn := dn) tn hw]
    by_cases e : t = tn
    · subst e
      rw [if_pos rfl, (hN t (Nat.le_refl _)).2]
      simp
    · rw [if_neg e, hB t (by omega)]
      congr 1
      exact (bcN_congr t (fun u hu => mkO_upd (by omega) (by omega))).symm
theorem nI_inj8 {i j : Nat} (hi : i < 8) (hj : j < 8) : nI i = nI j ↔ i = j := nI_eq (by omega) (by omega)
theorem wc_add {j : Nat} (hd : dn tn = 0) (i : Nat) (hi : i < 8) (hj : j < 8) : wcN dn (upd ow tn (nI j)) (nI i) (tn + 1) = wcN dn ow (nI i) tn + (if i = j then 1 else 0) := by
  rw [wcN, if_pos hd, pk_us, wcN_congr tn (fun u hu => pk_un (by omega))]
  by_cases e : i = j
  · subst e; rw [if_pos rfl, if_pos rfl]
  · rw [if_neg (fun q => e ((nI_inj8 hj hi).mp q).symm), if_neg e]; rfl
theorem JC_add (h5 : tn ≤ 500) (hN : ∀ t, tn ≤ t → dn t = 0 ∧ bl t = 0) (J : JC th co tg wa se ld ow st sl tn sn we tg' se' gr ba dn) {j : Nat} (hj : j < 8) (hth : ¬ th j = 0) :
    JC th co (if wa j = 0 then vp_updL tg j (mxL (tg j) st) else tg) (upd wa j (wa j + nI 1)) se (if wa j = 0 then fgL ld j 8 else ld) (upd ow tn (nI j)) st sl (tn + 1) sn we (if wcI dn ow tn j = 0 then vp_updL tg' j (if tg' j ≤ tg' 8 then tg' 8 else tg' j) else tg') se' gr (if wcI dn ow tn j = 0 then beB ba gr j 8 else ba) dn := by
  obtain ⟨k1, k2, k3, k4, k5, k6, k7, k8, k9, k10, k11⟩ := J
  have hd := (hN tn (Nat.le_refl _)).1
  have hwj : wa j = wcI dn ow tn j := k6 j hj
  refine ⟨k1, ?_, ?_, k4, ?_, ?_, ?_, k8, k9, ?_, ?_⟩
  · intro i hi
    rw [hwj]
    split
    · by_cases e : i = j
      · subst e; rw [pk_uLs, pk_uLs, mx_eq, k2 i hi, k3]
      · rw [pk_uLn e, pk_uLn e]; exact k2 i hi
    · exact k2 i hi
  · split
    · rw [pk_uLn (by omega)]; exact k3
    · exact k3
  · intro t h
    by_cases e : t = tn
    · subst e; exact ⟨j, hj, pk_us, k4 j hj hth⟩
    · obtain ⟨o, a, b, c⟩ := k5 t (by omega)
      exact ⟨o, a, by rw [pk_un e]; exact b, c⟩
  · intro i hi
    rw [wc_add hd i hi hj]
    by_cases e : i = j
    · subst e; rw [pk_us, if_pos rfl, k6 i hi, nI_add]
    · rw [pk_un e, if_neg e, k6 i hi]; rfl
  · intro i hi h0
    have e : ¬ i = j := fun q => hth (by rw [← q]; exact h0)
    rw [wc_add hd i hi hj, if_neg e, k7 i hi h0]
  · intro a b ha hb
    rw [hwj]
    by_cases hz : wcI dn ow tn j = 0
    · rw [if_pos hz, if_pos hz, fgL_at, beB_at hj 8 a b (Nat.le_refl _) ha hb, beB_at hj 8 b a (Nat.le_refl _) hb ha]
      have := k10 a b ha hb
      by_cases e1 : a = j
      · subst e1
        by_cases e2 : b = a
        · subst e2; simp [ha]
        · simp [e2, ha, hb]
      · by_cases e2 : b = j
        · subst e2
          simp [e1, ha, hb]
        · simp [e1, e2]; exact this
    · rw [if_neg hz, if_neg hz]; exact k10 a b ha hb
  · rcases k11 with h | ⟨o, a, b, c⟩
    · exact Or.inl h
    · refine Or.inr ⟨o, a, b, ?_⟩
      rw [wc_add hd o a hj]; omega
end SUBMIT

section SERVE
variable {th co : Nat → Int32} {tg : Nat → Int64} {wa se : Nat → Int32} {ld : Nat → Nat → Int64} {ow wr fi sz wt bl sh : Nat → Int32} {st : Int64} {sl le : Int32} {tn sn : Nat} {we : Nat → Int32} {tg' se' gr ba : Nat → Int64} {dn ur : Nat → Int32} {t o : Nat}
theorem JR_serve (J : JR ow wr fi sz wt bl sh tn sn dn ur) (ht : t < tn) (h0 : dn t = 0) {h w : Int32} (hw : (h = nI 3 ∧ w = nI 1) ∨ (h = nI 2 ∧ w = nI 0)) :
    JR ow wr fi sz (upd wt t (nI 0)) (msB ow wr fi sz bl t tn) (upd sh t h) tn (sn + 1) (upd dn t (nI 1)) (upd ur t w) := by
  obtain ⟨h5, hs, hR, hD, hN, hB⟩ := J
  refine ⟨h5, ?_, hR, ?_, ?_, ?_⟩
  · rw [dcN_serve h0, if_pos ht, hs]
  · intro u hu
    unfold DT
    by_cases e : u = t
    · subst e
      right
      refine ⟨pk_us, pk_us, ?_⟩
      rw [pk_us, pk_us]
      rcases hw with ⟨a, b⟩ | ⟨a, b⟩
      · rw [a, b, if_neg n1_0]
      · rw [a, b, if_pos nI00]
    · rw [pk_un e, pk_un e, pk_un e, pk_un e]; exact hD u hu
  · intro u hu
    refine ⟨by rw [pk_un (by omega)]; exact (hN u hu).1, ?_⟩
    rw [msB_at, if_neg (by omega)]
    exact (hN u hu).2
  · intro u hu
    have hb := bcN_serve (ow := ow) (wr := wr) (fi := fi) (sz := sz) (e := u) h0 u
    rw [msB_at, hB u hu, ← hb]
    by_cases hm : t < u ∧ mkO ow wr fi sz t u
    · rw [if_pos ⟨hu, hm⟩, if_pos hm]
      exact nI_pred _
    · rw [if_neg (fun q => hm q.2), if_neg hm]; rfl
theorem JC_serve (h5 : tn ≤ 500) (hs : sn < tn) (J : JC th co tg wa se ld ow st sl tn sn we tg' se' gr ba dn) (ht : t < tn) (h0 : dn t = 0) (ho : o < 8) (how : ow t = nI o) (hR : RT fi sz t) :
    JC th co (vp_updL tg o (tg o + (co o).toInt64 * (sz t).toInt64)) (upd wa o (wa o - nI 1)) (upd se o (se o + sz t)) (nsL ld o ((co o).toInt64 * (sz t).toInt64) 8) ow
      (if tn - (sn + 1) = 0 then gtF th (vp_updL tg o (tg o + (co o).toInt64 * (sz t).toInt64)) st 8 else st)
      (if nI o = sl then (if le - sz t ≤ 0 ∨ (upd wa o (wa o - nI 1)) o = 0 then (-1) else sl) else sl) tn (sn + 1) we
      (if sn + 1 = tn then smT th (vp_updL tg' o (tg' o + (27720) * (sz t).toInt64 / (we o).toInt64)) 8 else vp_updL tg' o (tg' o + (27720) * (sz t).toInt64 / (we o).toInt64))
      (vp_updL se' o (se' o + (sz t).toInt64)) (vp_updL gr o (gr o + (27720) * (sz t).toInt64 / (we o).toInt64)) ba (upd dn t (nI 1))
    ∧ ¬ (we o).toInt64 = 0
    ∧ (if nI o = sl then (if le - sz t ≤ 0 ∨ (upd wa o (wa o - nI 1)) o = 0 then (-1) else sl) else sl) = (if sl = nI o ∧ ((if sl = nI o then le - sz t else le) ≤ 0 ∨ nI (wcN (upd dn t (nI 1)) ow (nI o) tn) = 0) then (-1) else sl)
    ∧ (if nI o = sl then (if le - sz t ≤ 0 ∨ (upd wa o (wa o - nI 1)) o = 0 then nI 0 else le - sz t) else le) = (if sl = nI o ∧ ((if sl = nI o then le - sz t else le) ≤ 0 ∨ nI (wcN (upd dn t (nI 1)) ow (nI o) tn) = 0) then nI 0 else (if sl = nI o then le - sz t else le)) := by
  obtain ⟨k1, k2, k3, k4, k5, k6, k7, k8, k9, k10, k11⟩ := J
  obtain ⟨f, z, z1, z2, z3, ef, ez⟩ := hR
  have hgo : GW we co o := by
    obtain ⟨o2, a, b, c⟩ := k5 t ht
    have : o2 = o := (nI_inj8 a ho).mp (b.symm.trans how)
    rw [← this]; exact c
  obtain ⟨v, v1, v2, ev, ec⟩ := hgo
  have hg : (co o).toInt64 * (sz t).toInt64 = (27720) * (sz t).toInt64 / (we o).toInt64 := by
    rw [ec, ez, ev]; exact growth v1 v2 z2
  have hwe : ¬ (we o).toInt64 = 0 := by
    rw [ev, nI_l (by omega)]
    intro q
    have := (pk_lEQ (a := v) (b := 0) (by omega) (by decide)).mp q
    omega
  have hwc := fun i => wcN_serve (ow := ow) (x := nI i) h0 tn
  have hwo : wcN (upd dn t (nI 1)) ow (nI o) tn + 1 = wcN dn ow (nI o) tn := by
    have := hwc o
    rw [if_pos ⟨ht, how⟩] at this; exact this
  have hwi : ∀ i, i < 8 → i ≠ o → wcN (upd dn t (nI 1)) ow (nI i) tn = wcN dn ow (nI i) tn := by
    intro i hi he
    have := hwc i
    rw [if_neg (fun q => he ((nI_inj8 hi ho).mp (q.2.symm.trans how)))] at this
    omega
  have hwa : upd wa o (wa o - nI 1) o = nI (wcN (upd dn t (nI 1)) ow (nI o) tn) := by
    rw [pk_us, k6 o ho, ← hwo]; exact nI_pred _
  have htho : ¬ th o = 0 := fun q => by have := k7 o ho q; omega
  have hwle := wcN_le (upd dn t (nI 1)) ow (nI o) tn
  have hz0 : nI (wcN (upd dn t (nI 1)) ow (nI o) tn) = 0 ↔ wcN (upd dn t (nI 1)) ow (nI o) tn = 0 := by
    rw [← nI00]; exact nI_eq (by omega) (by decide)
  rw [hg]
  generalize hG : (27720) * (sz t).toInt64 / (we o).toInt64 = g
  have hT : ∀ i, i < 8 → vp_updL tg' o (tg' o + g) i = vp_updL tg o (tg o + g) i := by
    intro i hi
    by_cases e : i = o
    · subst e; rw [pk_uLs, pk_uLs, k2 i hi]
    · rw [pk_uLn e, pk_uLn e]; exact k2 i hi
  refine ⟨⟨k1, ?_, ?_, k4, k5, ?_, ?_, ?_, ?_, ?_, ?_⟩, hwe, ?_, ?_⟩
  · intro i hi
    split
    · rw [smT_lo 8 i hi]; exact hT i hi
    · exact hT i hi
  · by_cases e : sn + 1 = tn
    · rw [if_pos e, if_pos (by omega), smT_gt hT 8 (Nat.le_refl _), pk_uLn (by omega), k3]
    · rw [if_neg e, if_neg (by omega), pk_uLn (by omega)]; exact k3
  · intro i hi
    by_cases e : i = o
    · subst e; exact hwa
    · rw [pk_un e, hwi i hi e]; exact k6 i hi
  · intro i hi q
    have e : i ≠ o := fun e => htho (by rw [← e]; exact q)
    rw [hwi i hi e]; exact k7 i hi q
  · intro i hi
    obtain ⟨c, c1, c2, c3⟩ := k8 i hi
    by_cases e : i = o
    · subst e
      refine ⟨c + z, by omega, ?_, ?_⟩
      · rw [pk_us, c2, ez, nI_add]
      · rw [pk_uLs, c3, ez, nI_l (by omega), lN_add]
    · exact ⟨c, by omega, by rw [pk_un e]; exact c2, by rw [pk_uLn e]; exact c3⟩
  · intro i hi q
    have e : i ≠ o := fun e => htho (by rw [← e]; exact q)
    rw [pk_un e]; exact k9 i hi q
  · intro a b ha hb
    have := k10 a b ha hb
    rw [nsL_at, this]
    by_cases e1 : a = o
    · subst e1
      rw [pk_uLs]
      by_cases e2 : b = a
      · subst e2; rw [pk_uLs]; simp [ha]
      · rw [pk_uLn e2]; simp [e2, hb]; grind
    · rw [pk_uLn e1]
      by_cases e2 : b = o
      · subst e2; rw [pk_uLs]; simp [e1, ha]; grind
      · rw [pk_uLn e2]; simp [e1, e2]
  · by_cases e : nI o = sl
    · rw [if_pos e]
      split
      · exact Or.inl rfl
      · rename_i hn
        refine Or.inr ⟨o, ho, e.symm, ?_⟩
        have : ¬ wcN (upd dn t (nI 1)) ow (nI o) tn = 0 := fun q => hn (Or.inr (by rw [hwa]; exact hz0.mpr q))
        omega
    · rw [if_neg e]
      rcases k11 with q | ⟨o2, a, b, c⟩
      · exact Or.inl q
      · refine Or.inr ⟨o2, a, b, ?_⟩
        rw [hwi o2 a (fun q => e (by rw [← q]; exact b.symm))]; exact c
  · rw [hwa]
    by_cases e : nI o = sl
    · rw [if_pos e, if_pos e.symm]
      by_cases q : le - sz t ≤ 0 ∨ nI (wcN (upd dn t (nI 1)) ow (nI o) tn) = 0
      · rw [if_pos q, if_pos ⟨e.symm, q⟩]
      · rw [if_neg q, if_neg (fun r => q r.2)]
    · rw [if_neg e, if_neg (fun r => e r.1.symm)]
  · rw [hwa]
    by_cases e : nI o = sl
    · rw [if_pos e, if_pos e.symm]
      by_cases q : le - sz t ≤ 0 ∨ nI (wcN (upd dn t (nI 1)) ow (nI o) tn) = 0
      · rw [if_pos q, if_pos ⟨e.symm, q⟩]
      · rw [if_neg q, if_neg (fun r => q r.2)]
    · rw [if_neg e, if_neg (fun r => e r.1.symm), if_neg (fun r => e r.symm)]
end SERVE
section OTHERS
variable {th co : Nat → Int32} {tg : Nat → Int64} {wa se : Nat → Int32} {ld : Nat → Nat → Int64} {ow wr fi sz wt bl sh : Nat → Int32} {st : Int64} {sl le : Int32} {tn sn : Nat} {we : Nat → Int32} {tg' se' gr ba : Nat → Int64} {dn ur : Nat → Int32} {j : Nat}
theorem th_up (k1 : ∀ i, th i = 0 ∨ th i = 1) : (if th j = 0 then upd th j (nI 1) else th) = upd th j (nI 1) := by
  split
  · rfl
  · rename_i h
    funext i
    by_cases e : i = j
    · subst e; rw [pk_us]; exact (k1 i).resolve_left h
    · rw [pk_un e]
theorem JC_client (J : JC th co tg wa se ld ow st sl tn sn we tg' se' gr ba dn) (hj : j < 8) {v : Nat} (h1 : 1 ≤ v) (h2 : v ≤ 12) :
    JC (upd th j (nI 1)) (upd co j (nI 27720 / nI v)) (if th j = 0 then vp_updL tg j st else tg) wa se ld ow st sl tn sn (upd we j (nI v)) (if th j = 0 then vp_updL tg' j (tg' 8) else tg') (if th j = 0 then vp_updL se' j 0 else se') gr ba dn := by
  obtain ⟨k1, k2, k3, k4, k5, k6, k7, k8, k9, k10, k11⟩ := J
  have hG : ∀ i, GW we co i ∨ i = j → GW (upd we j (nI v)) (upd co j (nI 27720 / nI v)) i := by
    intro i h
    by_cases e : i = j
    · subst e
      exact ⟨v, h1, h2, pk_us, by rw [pk_us, pk_div (by decide) (by omega) (by omega)]⟩
    · obtain ⟨u, a, b, c, d⟩ := h.resolve_right e
      exact ⟨u, a, b, by rw [pk_un e]; exact c, by rw [pk_un e]; exact d⟩
  refine ⟨?_, ?_, ?_, ?_, ?_, k6, ?_, ?_, ?_, k10, k11⟩
  · intro i
    by_cases e : i = j
    · subst e; exact Or.inr pk_us
    · rw [pk_un e]; exact k1 i
  · intro i hi
    split
    · by_cases e : i = j
      · subst e; rw [pk_uLs, pk_uLs, k3]
      · rw [pk_uLn e, pk_uLn e]; exact k2 i hi
    · exact k2 i hi
  · split
    · rw [pk_uLn (by omega)]; exact k3
    · exact k3
  · intro i hi h
    by_cases e : i = j
    · exact hG i (Or.inr e)
    · rw [pk_un e] at h; exact hG i (Or.inl (k4 i hi h))
  · intro t ht
    obtain ⟨o, a, b, c⟩ := k5 t ht
    exact ⟨o, a, b, hG o (Or.inl c)⟩
  · intro i hi h
    by_cases e : i = j
    · subst e; rw [pk_us] at h; exact absurd h n1_0
    · rw [pk_un e] at h; exact k7 i hi h
  · intro i hi
    split
    · rename_i h0
      by_cases e : i = j
      · subst e; exact ⟨0, by omega, k9 i hi h0, pk_uLs⟩
      · rw [pk_uLn e]; exact k8 i hi
    · exact k8 i hi
  · intro i hi h
    by_cases e : i = j
    · subst e; rw [pk_us] at h; exact absurd h n1_0
    · rw [pk_un e] at h; exact k9 i hi h
theorem JC_gone (h5 : tn ≤ 500) (J : JC th co tg wa se ld ow st sl tn sn we tg' se' gr ba dn) (hj : j < 8) (hw : wa j ≤ 0) :
    JC (upd th j (nI 0)) co tg wa (upd se j (nI 0)) ld ow st (if sl = nI j then (-1) else sl) tn sn we tg' (vp_updL se' j 0) gr ba dn := by
  obtain ⟨k1, k2, k3, k4, k5, k6, k7, k8, k9, k10, k11⟩ := J
  have hle := wcN_le dn ow (nI j) tn
  have hz : wcN dn ow (nI j) tn = 0 := by
    rw [k6 j hj] at hw
    exact Classical.byContradiction fun q => nI_nle (by omega) (by omega) hw
  refine ⟨?_, k2, k3, ?_, k5, k6, ?_, ?_, ?_, k10, ?_⟩
  · intro i
    by_cases e : i = j
    · subst e; exact Or.inl pk_us
    · rw [pk_un e]; exact k1 i
  · intro i hi h
    by_cases e : i = j
    · subst e; rw [pk_us] at h; exact absurd rfl h
    · rw [pk_un e] at h; exact k4 i hi h
  · intro i hi h
    by_cases e : i = j
    · subst e; exact hz
    · rw [pk_un e] at h; exact k7 i hi h
  · intro i hi
    by_cases e : i = j
    · subst e; exact ⟨0, by omega, pk_us, pk_uLs⟩
    · rw [pk_un e, pk_uLn e]; exact k8 i hi
  · intro i hi h
    by_cases e : i = j
    · subst e; exact pk_us
    · rw [pk_un e] at h ⊢; exact k9 i hi h
  · split
    · exact Or.inl rfl
    · exact k11
theorem wcI_pos (h5 : tn ≤ 500) {i : Nat} : ¬ wcI dn ow tn i ≤ 0 ↔ 0 < wcN dn ow (nI i) tn := by
  have hle := wcN_le dn ow (nI i) tn
  constructor
  · intro h
    exact Nat.pos_of_ne_zero fun q => h (by unfold wcI; rw [q]; decide)
  · intro h; exact nI_nle h (by omega)
theorem JC_begin (h5 : tn ≤ 500) (J : JC th co tg wa se ld ow st sl tn sn we tg' se' gr ba dn) (hn : nit (wcI dn ow tn) tg' 8 = some j) :
    JC th co tg wa se ld ow (tg j) (nI j) tn sn we (vp_updL tg' 8 (tg' j)) se' gr ba dn := by
  obtain ⟨k1, k2, k3, k4, k5, k6, k7, k8, k9, k10, k11⟩ := J
  have hj := nit_lt _ _ hn
  refine ⟨k1, ?_, ?_, k4, k5, k6, k7, k8, k9, k10, Or.inr ⟨j, hj, rfl, (wcI_pos h5).mp (nit_pos hn)⟩⟩
  · intro i hi
    rw [pk_uLn (by omega)]; exact k2 i hi
  · rw [pk_uLs]; exact k2 j hj
theorem nit_tie (J : JC th co tg wa se ld ow st sl tn sn we tg' se' gr ba dn) : nit wa tg 8 = nit (wcI dn ow tn) tg' 8 := by
  obtain ⟨k1, k2, k3, k4, k5, k6, k7, k8, k9, k10, k11⟩ := J
  exact nit_congr 8 fun i hi => ⟨k6 i hi, (k2 i hi).symm⟩
/-! what dispatch is owed -/
theorem d_fr (J : JR ow wr fi sz wt bl sh tn sn dn ur) : ∀ t, t < tn → stF wt bl sh t = nI 1 → sn < tn := by
  intro t ht h
  have := (fre_iff J ht).mp h
  rw [J.2.1]; exact dcN_lt ht this.1
theorem d_ow (J : JC th co tg wa se ld ow st sl tn sn we tg' se' gr ba dn) : ∀ t, t < tn → ∃ o, o < 8 ∧ ow t = nI o := fun t ht => by
  obtain ⟨o, a, b, -⟩ := J.2.2.2.2.1 t ht
  exact ⟨o, a, b⟩
theorem GW_ne {o : Nat} (h : GW we co o) : ¬ (we o).toInt64 = 0 := by
  obtain ⟨v, v1, v2, ev, -⟩ := h
  rw [ev, nI_l (by omega)]
  intro q
  have := (pk_lEQ (a := v) (b := 0) (by omega) (by decide)).mp q
  omega
theorem d_ow2 (J : JC th co tg wa se ld ow st sl tn sn we tg' se' gr ba dn) : ∀ t, t < tn → ∃ o, o < 8 ∧ ow t = nI o ∧ ¬ (we o).toInt64 = 0 := fun t ht => by
  obtain ⟨o, a, b, c⟩ := J.2.2.2.2.1 t ht
  exact ⟨o, a, b, GW_ne c⟩
theorem d_ch (R : JR ow wr fi sz wt bl sh tn sn dn ur) (J : JC th co tg wa se ld ow st sl tn sn we tg' se' gr ba dn) : ¬ sn = tn → sl = -1 → ∃ j, nit (wcI dn ow tn) tg' 8 = some j := by
  intro h _
  obtain ⟨t, h1, h2⟩ := dcN_ex (dn := dn) (n := tn) (fun q => h (by rw [R.2.1]; exact q))
  obtain ⟨o, a, b, -⟩ := J.2.2.2.2.1 t h1
  exact nit_some a ((wcI_pos R.1).mpr (wcN_pos h1 h2 b))
theorem d_nx {hd le : Int32} {bu : Nat → Int32} (R : JR ow wr fi sz wt bl sh tn sn dn ur) (J : JC th co tg wa se ld ow st sl tn sn we tg' se' gr ba dn) : ¬ sn = tn → ∀ sl1 le1 tg1, chP sl le tg' dn ow bu tn sl1 le1 tg1 → ∃ t, nxF dn ow wr fi sz sl1 hd tn = some t := by
  intro h sl1 le1 tg1 hc
  have key : ∃ o, o < 8 ∧ sl1 = nI o ∧ 0 < wcN dn ow (nI o) tn := by
    rcases hc with ⟨a, b, -⟩ | ⟨a, j, b, c, -⟩
    · rcases J.2.2.2.2.2.2.2.2.2.2 with q | ⟨o, q1, q2, q3⟩
      · exact absurd q a
      · exact ⟨o, q1, b.trans q2, q3⟩
    · exact ⟨j, nit_lt _ _ b, c, (wcI_pos R.1).mp (nit_pos b)⟩
  obtain ⟨o, -, rfl, h3⟩ := key
  obtain ⟨t, g1, g2, g3⟩ := first_goes (wr := wr) (fi := fi) (sz := sz) h3
  exact nx_some g1 g2 g3
end OTHERS
