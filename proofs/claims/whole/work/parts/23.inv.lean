/-! The invariant of the law's loop. -/
def JW (ow : Nat → Int32) (tn : Nat) (dn : Nat → Int32) : Prop := ∀ i, i < 8 → wcN dn ow (nI i) tn ≤ 64
def INV (d : Nat) (cq rq mq : Nat → Nat) (k : Nat → ClassId) (tr : Int32) (wC wM : va_W) : Prop := ∃ (ck : Int64) (hd : Int32) (po st : Int64) (sl le : Int32) (th co bu : Nat → Int32) (tg : Nat → Int64) (wa se : Nat → Int32) (ld : Nat → Nat → Int64) (ow wr fi sz : Nat → Int32) (dl : Nat → Int64) (wt bl sh so : Nat → Int32) (tn sn un : Nat) (we : Nat → Int32) (tg' se' gr ba : Nat → Int64) (dn ur : Nat → Int32), wC = DkW d (cq 0) (rq 0) ck hd po st sl le ++ (ClW cq k th co bu tg wa se ld ++ RqW rq k ow wr fi sz dl wt bl sh so tn sn un) ∧ wM = MoW mq k tr ck hd po th we bu tg' se' gr ba tn sn un ow fi sz so wr dn ur dl sl le ∧ JR ow wr fi sz wt bl sh tn sn dn ur ∧ JC th co tg wa se ld ow st sl tn sn we tg' se' gr ba dn ∧ JH hd ∧ JW ow tn dn
section OPS
variable {d : Nat} {cq rq mq : Nat → Nat} {k : Nat → ClassId} {tr : Int32} {ck : Int64} {hd : Int32} {po st : Int64} {sl le : Int32} {th co bu : Nat → Int32} {tg : Nat → Int64} {wa se : Nat → Int32} {ld : Nat → Nat → Int64} {ow wr fi sz : Nat → Int32} {dl : Nat → Int64} {wt bl sh so : Nat → Int32} {tn sn un : Nat} {we : Nat → Int32} {tg' se' gr ba : Nat → Int64} {dn ur : Nat → Int32} {wC wM : va_W}
theorem INV_id (R : JR ow wr fi sz wt bl sh tn sn dn ur) (J : JC th co tg wa se ld ow st sl tn sn we tg' se' gr ba dn) (HH : JH hd ∧ JW ow tn dn) : INV d cq rq mq k tr (DkW d (cq 0) (rq 0) ck hd po st sl le ++ (ClW cq k th co bu tg wa se ld ++ RqW rq k ow wr fi sz dl wt bl sh so tn sn un)) (MoW mq k tr ck hd po th we bu tg' se' gr ba tn sn un ow fi sz so wr dn ur dl sl le) := ⟨_, _, _, _, _, _, _, _, _, _, _, _, _, _, _, _, _, _, _, _, _, _, _, _, _, _, _, _, _, _, _, _, rfl, rfl, R, J, HH⟩
theorem in7 {j : Nat} (h : j < 8) : inw (nI j) (nI 0) (nI 7) := ⟨nI_pos (by omega), nI_nlt (by omega) (by decide)⟩
theorem op_client (R : JR ow wr fi sz wt bl sh tn sn dn ur) (J : JC th co tg wa se ld ow st sl tn sn we tg' se' gr ba dn) (HH : JH hd ∧ JW ow tn dn) {x y z : Int32} (hC : (fun w9 => ∃ j, j < 8 ∧ x = nI j ∧ inw y (nI 1) (nI 12) ∧ inw z (nI 1) (nI 1000) ∧ w9 = DkW d (cq 0) (rq 0) ck hd po st sl le ++ (ClW cq k (if th j = 0 then upd th j (nI 1) else th) (upd co j (nI 27720 / y)) (upd bu j z) (if th j = 0 then vp_updL tg j st else tg) wa se ld ++ (RqW rq k ow wr fi sz dl wt bl sh so tn sn un))) wC) (hM : (fun w9 => (¬ (inw x (nI 0) (nI 7) ∧ inw y (nI 1) (nI 12) ∧ inw z (nI 1) (nI 1000)) ∧ w9 = MoW mq k (nI 1) ck hd po th we bu tg' se' gr ba tn sn un ow fi sz so wr dn ur dl sl le) ∨ ((inw x (nI 0) (nI 7) ∧ inw y (nI 1) (nI 12) ∧ inw z (nI 1) (nI 1000)) ∧ ∃ j, j < 8 ∧ x = nI j ∧ w9 = MoW mq k (nI 0) ck hd po (upd th j (nI 1)) (upd we j y) (upd bu j z) (if th j = 0 then vp_updL tg' j (tg' 8) else tg') (if th j = 0 then vp_updL se' j 0 else se') gr ba tn sn un ow fi sz so wr dn ur dl sl le)) wM) : INV d cq rq mq k (nI 0) wC wM := by
  obtain ⟨j, hj, rfl, hy, hz, rfl⟩ := hC
  rcases hM with ⟨hn, -⟩ | ⟨-, j2, hj2, e, rfl⟩
  · exact absurd ⟨in7 hj, hy, hz⟩ hn
  · obtain rfl := (nI_inj8 hj hj2).mp e
    obtain ⟨v, v1, v2, rfl⟩ := ofWd hy (by decide) (by decide)
    rw [th_up J.1]
    exact ⟨_, _, _, _, _, _, _, _, _, _, _, _, _, _, _, _, _, _, _, _, _, _, _, _, _, _, _, _, _, _, _, _, rfl, rfl, R, JC_client J hj v1 v2, HH⟩
theorem op_client_x (R : JR ow wr fi sz wt bl sh tn sn dn ur) (J : JC th co tg wa se ld ow st sl tn sn we tg' se' gr ba dn) (HH : JH hd ∧ JW ow tn dn) {x y z : Int32} {E : String} (hC : (fun E w9 => E = IAE ∧ w9 = DkW d (cq 0) (rq 0) ck hd po st sl le ++ (ClW cq k th co bu tg wa se ld ++ (RqW rq k ow wr fi sz dl wt bl sh so tn sn un)) ∧ ¬ (inw x (nI 0) (nI 7) ∧ inw y (nI 1) (nI 12) ∧ inw z (nI 1) (nI 1000))) E wC) (hM : (fun w9 => (¬ (inw x (nI 0) (nI 7) ∧ inw y (nI 1) (nI 12) ∧ inw z (nI 1) (nI 1000)) ∧ w9 = MoW mq k (nI 1) ck hd po th we bu tg' se' gr ba tn sn un ow fi sz so wr dn ur dl sl le) ∨ ((inw x (nI 0) (nI 7) ∧ inw y (nI 1) (nI 12) ∧ inw z (nI 1) (nI 1000)) ∧ ∃ j, j < 8 ∧ x = nI j ∧ w9 = MoW mq k (nI 0) ck hd po (upd th j (nI 1)) (upd we j y) (upd bu j z) (if th j = 0 then vp_updL tg' j (tg' 8) else tg') (if th j = 0 then vp_updL se' j 0 else se') gr ba tn sn un ow fi sz so wr dn ur dl sl le)) wM) : INV d cq rq mq k (nI 1) wC wM := by
  obtain ⟨-, rfl, hn⟩ := hC
  rcases hM with ⟨-, rfl⟩ | ⟨h, -⟩
  · exact INV_id R J HH
  · exact absurd h hn
theorem op_gone (R : JR ow wr fi sz wt bl sh tn sn dn ur) (J : JC th co tg wa se ld ow st sl tn sn we tg' se' gr ba dn) (HH : JH hd ∧ JW ow tn dn) {x : Int32} (hC : (fun w9 => ∃ j, j < 8 ∧ x = nI j ∧ ¬ th j = 0 ∧ wa j ≤ 0 ∧ w9 = DkW d (cq 0) (rq 0) ck hd po st (if sl = nI j then (-1) else sl) (if sl = nI j then nI 0 else le) ++ (ClW cq k (upd th j (nI 0)) co bu tg wa (upd se j (nI 0)) ld ++ (RqW rq k ow wr fi sz dl wt bl sh so tn sn un))) wC) (hM : (fun w9 => (¬ isT th x ∧ w9 = MoW mq k (nI 1) ck hd po th we bu tg' se' gr ba tn sn un ow fi sz so wr dn ur dl sl le) ∨ ∃ j, j < 8 ∧ x = nI j ∧ ¬ th j = 0 ∧ ((¬ wcI dn ow tn j ≤ 0 ∧ w9 = MoW mq k (nI 2) ck hd po th we bu tg' se' gr ba tn sn un ow fi sz so wr dn ur dl sl le) ∨ (wcI dn ow tn j ≤ 0 ∧ w9 = MoW mq k (nI 0) ck hd po (upd th j (nI 0)) we bu tg' (vp_updL se' j 0) gr ba tn sn un ow fi sz so wr dn ur dl (if sl = nI j then (-1) else sl) (if sl = nI j then nI 0 else le)))) wM) : INV d cq rq mq k (nI 0) wC wM := by
  obtain ⟨j, hj, rfl, ht, hw, rfl⟩ := hC
  rcases hM with ⟨hn, -⟩ | ⟨j2, hj2, e, ht2, h⟩
  · exact absurd ⟨j, hj, rfl, ht⟩ hn
  · obtain rfl := (nI_inj8 hj hj2).mp e
    rcases h with ⟨hn, -⟩ | ⟨-, rfl⟩
    · have hw2 := hw
      rw [J.2.2.2.2.2.1 j hj] at hw2
      exact absurd hw2 hn
    · exact ⟨_, _, _, _, _, _, _, _, _, _, _, _, _, _, _, _, _, _, _, _, _, _, _, _, _, _, _, _, _, _, _, _, rfl, rfl, R, JC_gone R.1 J hj hw, HH⟩
theorem op_gone_x (R : JR ow wr fi sz wt bl sh tn sn dn ur) (J : JC th co tg wa se ld ow st sl tn sn we tg' se' gr ba dn) (HH : JH hd ∧ JW ow tn dn) {x : Int32} {E : String} (hC : (fun E w9 => w9 = DkW d (cq 0) (rq 0) ck hd po st sl le ++ (ClW cq k th co bu tg wa se ld ++ (RqW rq k ow wr fi sz dl wt bl sh so tn sn un)) ∧ ((E = IAE ∧ ¬ isT th x) ∨ (E = ISE ∧ ∃ j, j < 8 ∧ x = nI j ∧ ¬ th j = 0 ∧ ¬ wa j ≤ 0))) E wC) (hM : (fun w9 => (¬ isT th x ∧ w9 = MoW mq k (nI 1) ck hd po th we bu tg' se' gr ba tn sn un ow fi sz so wr dn ur dl sl le) ∨ ∃ j, j < 8 ∧ x = nI j ∧ ¬ th j = 0 ∧ ((¬ wcI dn ow tn j ≤ 0 ∧ w9 = MoW mq k (nI 2) ck hd po th we bu tg' se' gr ba tn sn un ow fi sz so wr dn ur dl sl le) ∨ (wcI dn ow tn j ≤ 0 ∧ w9 = MoW mq k (nI 0) ck hd po (upd th j (nI 0)) we bu tg' (vp_updL se' j 0) gr ba tn sn un ow fi sz so wr dn ur dl (if sl = nI j then (-1) else sl) (if sl = nI j then nI 0 else le)))) wM) : (E = IAE ∧ INV d cq rq mq k (nI 1) wC wM) ∨ (E = ISE ∧ INV d cq rq mq k (nI 2) wC wM) := by
  obtain ⟨rfl, h⟩ := hC
  rcases h with ⟨rfl, hn⟩ | ⟨rfl, j, hj, rfl, ht, hw⟩
  · rcases hM with ⟨-, rfl⟩ | ⟨j2, hj2, rfl, ht2, -⟩
    · exact Or.inl ⟨rfl, INV_id R J HH⟩
    · exact absurd ⟨j2, hj2, rfl, ht2⟩ hn
  · rcases hM with ⟨hn, -⟩ | ⟨j2, hj2, e, ht2, h⟩
    · exact absurd ⟨j, hj, rfl, ht⟩ hn
    · obtain rfl := (nI_inj8 hj hj2).mp e
      rcases h with ⟨-, rfl⟩ | ⟨hn, -⟩
      · exact Or.inr ⟨rfl, INV_id R J HH⟩
      · exact absurd (by rw [J.2.2.2.2.2.1 j hj]; exact hn) hw
theorem vs_nat {u v : Int32} (h : inw v (nI 1) (nI 64) ∧ inw u (nI 0) (nI 100000 - v)) : ∃ f c : Nat, 1 ≤ c ∧ c ≤ 64 ∧ f + c ≤ 100000 ∧ u = nI f ∧ v = nI c := by
  obtain ⟨h1, h2⟩ := h
  obtain ⟨c, c1, c2, rfl⟩ := ofWd h1 (by decide) (by decide)
  rw [pk_sub (by omega)] at h2
  obtain ⟨f, f1, rfl⟩ := ofW h2 (by omega)
  exact ⟨f, c, c1, c2, by omega, rfl, rfl⟩
abbrev VRf (u v y : Int32) : Prop := inwL u.toInt64 0 (99999) ∧ inwL v.toInt64 1 (64) ∧ ¬ (100000) < u.toInt64 + v.toInt64 ∧ inwL y.toInt64 0 (1000000)
theorem c99 : (99999 : Int64).toInt = (99999 : Nat) := by decide +kernel
theorem c64 : (64 : Int64).toInt = (64 : Nat) := by decide +kernel
theorem c1 : (1 : Int64).toInt = (1 : Nat) := by decide +kernel
theorem c0 : (0 : Int64).toInt = (0 : Nat) := by decide +kernel
theorem cM : (1000000 : Int64).toInt = (1000000 : Nat) := by decide +kernel
theorem cK : (100000 : Int64) = lN 100000 := rfl
theorem vs_vr {u v y : Int32} : ((inw v (nI 1) (nI 64) ∧ inw u (nI 0) (nI 100000 - v)) ∧ inw y (nI 0) (nI 1000000)) ↔ VRf u v y := by
  constructor
  · rintro ⟨h, hy⟩
    obtain ⟨f, c, h1, h2, h3, rfl, rfl⟩ := vs_nat h
    refine ⟨(inL (by decide) (by decide) c0 c99).mpr ⟨nI_pos (by omega), nI_nlt (by omega) (by decide)⟩, (inL (by decide) (by decide) c1 c64).mpr h.1, ?_, (inL (by decide) (by decide) c0 cM).mpr hy⟩
    rw [nI_l (by omega), nI_l (by omega), lN_add, cK, pk_lLT (by omega) (by omega)]
    omega
  · rintro ⟨a, b, e, y1⟩
    obtain ⟨f, -, f2, rfl⟩ := ofL a c0 c99 (by decide) (by decide)
    obtain ⟨c, g1, g2, rfl⟩ := ofL b c1 c64 (by decide) (by decide)
    rw [nI_l (by omega), nI_l (by omega), lN_add, cK, pk_lLT (by omega) (by omega)] at e
    refine ⟨⟨(inL (by decide) (by decide) c1 c64).mp b, ?_⟩, (inL (by decide) (by decide) c0 cM).mp y1⟩
    rw [pk_sub (by omega)]
    exact ⟨nI_pos (by omega), nI_nlt (by omega) (by omega)⟩
theorem op_submit (R : JR ow wr fi sz wt bl sh tn sn dn ur) (J : JC th co tg wa se ld ow st sl tn sn we tg' se' gr ba dn) (HH : JH hd ∧ JW ow tn dn) {x w u v y r r2 : Int32} (hC : (fun r9 w9 => ∃ j, j < 8 ∧ x = nI j ∧ ¬ th j = 0 ∧ (inw v (nI 1) (nI 64) ∧ inw u (nI 0) (nI 100000 - v)) ∧ inw y (nI 0) (nI 1000000) ∧ (((nI 64 ≤ wa j ∨ 500 ≤ tn) ∧ r9 = -1 ∧ w9 = DkW d (cq 0) (rq 0) ck hd po st sl le ++ (ClW cq k th co bu tg wa se ld ++ (RqW rq k ow wr fi sz dl wt bl sh so tn sn un))) ∨ (¬ nI 64 ≤ wa j ∧ tn < 500 ∧ r9 = nI tn ∧ w9 = DkW d (cq 0) (rq 0) ck hd po st sl le ++ (ClW cq k th co bu (if wa j = 0 then vp_updL tg j (mxL (tg j) st) else tg) (upd wa j (wa j + nI 1)) se (if wa j = 0 then fgL ld j 8 else ld) ++ (RqW rq k (upd ow tn (nI j)) (upd wr tn w) (upd fi tn u) (upd sz tn v) (vp_updL dl tn (ck + y.toInt64)) (upd wt tn (nI 1)) (adB (upd ow tn (nI j)) (upd wr tn w) (upd fi tn u) (upd sz tn v) (upd wt tn (nI 1)) bl tn tn) sh so (tn + 1) sn un))))) r wC) (hM : (fun r9 w9 => (¬ (isT th x ∧ inwL u.toInt64 0 (99999) ∧ inwL v.toInt64 1 (64) ∧ ¬ (100000) < u.toInt64 + v.toInt64 ∧ inwL y.toInt64 0 (1000000)) ∧ r9 = nI 0 ∧ w9 = MoW mq k (nI 1) ck hd po th we bu tg' se' gr ba tn sn un ow fi sz so wr dn ur dl sl le) ∨ ∃ j, j < 8 ∧ x = nI j ∧ ¬ th j = 0 ∧ (inwL u.toInt64 0 (99999) ∧ inwL v.toInt64 1 (64) ∧ ¬ (100000) < u.toInt64 + v.toInt64 ∧ inwL y.toInt64 0 (1000000)) ∧ (((wcI dn ow tn j = nI 64 ∨ nI tn = nI 500) ∧ r9 = -1 ∧ w9 = MoW mq k (nI 0) ck hd po th we bu tg' se' gr ba tn sn un ow fi sz so wr dn ur dl sl le) ∨ (¬ wcI dn ow tn j = nI 64 ∧ ¬ nI tn = nI 500 ∧ r9 = nI tn ∧ w9 = MoW mq k (nI 0) ck hd po th we bu (if wcI dn ow tn j = 0 then vp_updL tg' j (if tg' j ≤ tg' 8 then tg' 8 else tg' j) else tg') se' gr (if wcI dn ow tn j = 0 then beB ba gr j 8 else ba) (tn + 1) sn un (upd ow tn (nI j)) (upd fi tn u) (upd sz tn v) so (upd wr tn w) dn ur (vp_updL dl tn (ck + y.toInt64)) sl le))) r2 wM) : r = r2 ∧ INV d cq rq mq k (nI 0) wC wM := by
  obtain ⟨j, hj, rfl, ht, hv, hy, h⟩ := hC
  have hvr := vs_vr.mp ⟨hv, hy⟩
  rcases hM with ⟨hn, -⟩ | ⟨j2, hj2, e, -, -, hM⟩
  · exact absurd ⟨⟨j, hj, rfl, ht⟩, hvr⟩ hn
  · obtain rfl := (nI_inj8 hj hj2).mp e
    have hwj := J.2.2.2.2.2.1 j hj
    have hle := wcN_le dn ow (nI j) tn
    have h5 := R.1
    have ht5 : nI tn = nI 500 ↔ tn = 500 := nI_eq (by omega) (by decide)
    rcases h with ⟨h, rfl, rfl⟩ | ⟨h1, h2, rfl, rfl⟩
    · rcases hM with ⟨-, rfl, rfl⟩ | ⟨g1, g2, -⟩
      · exact ⟨rfl, INV_id R J HH⟩
      · exfalso
        have hq : ¬ tn = 500 := fun q => g2 (ht5.mpr q)
        rcases h with h | h
        · rw [hwj] at h
          have h3 := (nI_leI (by decide) (by omega)).mp h
          have h6 := HH.2 j hj
          exact g1 (show nI (wcN dn ow (nI j) tn) = nI 64 by rw [show wcN dn ow (nI j) tn = 64 by omega])
        · omega
    · have h3 : ¬ 64 ≤ wcN dn ow (nI j) tn := fun q => h1 (by rw [hwj]; exact nI_le q (by omega))
      rcases hM with ⟨g, -⟩ | ⟨-, -, rfl, rfl⟩
      · exfalso
        rcases g with g | g
        · have := (nI_eq (a := wcN dn ow (nI j) tn) (b := 64) (by omega) (by decide)).mp g
          omega
        · have := ht5.mp g
          omega
      · obtain ⟨f, c, e1, e2, e3, rfl, rfl⟩ := vs_nat hv
        exact ⟨rfl, _, _, _, _, _, _, _, _, _, _, _, _, _, _, _, _, _, _, _, _, _, _, _, _, _, _, _, _, _, _, _, _, rfl, rfl, JR_add R h2 e1 e2 e3, JC_add R.1 R.2.2.2.2.1 J hj ht, HH.1, fun i hi => by rw [wc_add (R.2.2.2.2.1 tn (Nat.le_refl _)).1 i hi hj]; have := HH.2 i hi; exact (Classical.byCases (p := i = j) (fun q => by subst q; rw [if_pos rfl]; omega) (fun q => by rw [if_neg q]; omega))⟩
theorem op_submit_x (R : JR ow wr fi sz wt bl sh tn sn dn ur) (J : JC th co tg wa se ld ow st sl tn sn we tg' se' gr ba dn) (HH : JH hd ∧ JW ow tn dn) {x w u v y r2 : Int32} {E : String} (hC : (fun E w9 => E = IAE ∧ w9 = DkW d (cq 0) (rq 0) ck hd po st sl le ++ (ClW cq k th co bu tg wa se ld ++ (RqW rq k ow wr fi sz dl wt bl sh so tn sn un)) ∧ ¬ (isT th x ∧ (inw v (nI 1) (nI 64) ∧ inw u (nI 0) (nI 100000 - v)) ∧ inw y (nI 0) (nI 1000000))) E wC) (hM : (fun r9 w9 => (¬ (isT th x ∧ inwL u.toInt64 0 (99999) ∧ inwL v.toInt64 1 (64) ∧ ¬ (100000) < u.toInt64 + v.toInt64 ∧ inwL y.toInt64 0 (1000000)) ∧ r9 = nI 0 ∧ w9 = MoW mq k (nI 1) ck hd po th we bu tg' se' gr ba tn sn un ow fi sz so wr dn ur dl sl le) ∨ ∃ j, j < 8 ∧ x = nI j ∧ ¬ th j = 0 ∧ (inwL u.toInt64 0 (99999) ∧ inwL v.toInt64 1 (64) ∧ ¬ (100000) < u.toInt64 + v.toInt64 ∧ inwL y.toInt64 0 (1000000)) ∧ (((wcI dn ow tn j = nI 64 ∨ nI tn = nI 500) ∧ r9 = -1 ∧ w9 = MoW mq k (nI 0) ck hd po th we bu tg' se' gr ba tn sn un ow fi sz so wr dn ur dl sl le) ∨ (¬ wcI dn ow tn j = nI 64 ∧ ¬ nI tn = nI 500 ∧ r9 = nI tn ∧ w9 = MoW mq k (nI 0) ck hd po th we bu (if wcI dn ow tn j = 0 then vp_updL tg' j (if tg' j ≤ tg' 8 then tg' 8 else tg' j) else tg') se' gr (if wcI dn ow tn j = 0 then beB ba gr j 8 else ba) (tn + 1) sn un (upd ow tn (nI j)) (upd fi tn u) (upd sz tn v) so (upd wr tn w) dn ur (vp_updL dl tn (ck + y.toInt64)) sl le))) r2 wM) : INV d cq rq mq k (nI 1) wC wM := by
  obtain ⟨-, rfl, hn⟩ := hC
  rcases hM with ⟨-, -, rfl⟩ | ⟨j, hj, rfl, ht, hv, -⟩
  · exact INV_id R J HH
  · have := vs_vr.mpr hv
    exact absurd ⟨⟨j, hj, rfl, ht⟩, this.1, this.2⟩ hn
theorem op_pass (R : JR ow wr fi sz wt bl sh tn sn dn ur) (J : JC th co tg wa se ld ow st sl tn sn we tg' se' gr ba dn) (HH : JH hd ∧ JW ow tn dn) {x : Int32} {r r2 : Int64} (hC : (fun r9 w9 => inw x (nI 0) (nI 1000000) ∧ r9 = ck + x.toInt64 ∧ w9 = DkW d (cq 0) (rq 0) (ck + x.toInt64) hd po st sl le ++ (ClW cq k th co bu tg wa se ld ++ (RqW rq k ow wr fi sz dl wt bl sh so tn sn un))) r wC) (hM : (fun r9 w9 => (¬ inw x (nI 0) (nI 1000000) ∧ r9 = 0 ∧ w9 = MoW mq k (nI 1) ck hd po th we bu tg' se' gr ba tn sn un ow fi sz so wr dn ur dl sl le) ∨ (inw x (nI 0) (nI 1000000) ∧ r9 = ck + x.toInt64 ∧ w9 = MoW mq k (nI 0) (ck + x.toInt64) hd po th we bu tg' se' gr ba tn sn un ow fi sz so wr dn ur dl sl le)) r2 wM) : r = r2 ∧ INV d cq rq mq k (nI 0) wC wM := by
  obtain ⟨h, rfl, rfl⟩ := hC
  rcases hM with ⟨hn, -⟩ | ⟨-, rfl, rfl⟩
  · exact absurd h hn
  · exact ⟨rfl, _, _, _, _, _, _, _, _, _, _, _, _, _, _, _, _, _, _, _, _, _, _, _, _, _, _, _, _, _, _, _, _, rfl, rfl, R, J, HH⟩
theorem op_pass_x (R : JR ow wr fi sz wt bl sh tn sn dn ur) (J : JC th co tg wa se ld ow st sl tn sn we tg' se' gr ba dn) (HH : JH hd ∧ JW ow tn dn) {x : Int32} {r2 : Int64} {E : String} (hC : (fun E w9 => E = IAE ∧ w9 = DkW d (cq 0) (rq 0) ck hd po st sl le ++ (ClW cq k th co bu tg wa se ld ++ (RqW rq k ow wr fi sz dl wt bl sh so tn sn un)) ∧ ¬ inw x (nI 0) (nI 1000000)) E wC) (hM : (fun r9 w9 => (¬ inw x (nI 0) (nI 1000000) ∧ r9 = 0 ∧ w9 = MoW mq k (nI 1) ck hd po th we bu tg' se' gr ba tn sn un ow fi sz so wr dn ur dl sl le) ∨ (inw x (nI 0) (nI 1000000) ∧ r9 = ck + x.toInt64 ∧ w9 = MoW mq k (nI 0) (ck + x.toInt64) hd po th we bu tg' se' gr ba tn sn un ow fi sz so wr dn ur dl sl le)) r2 wM) : INV d cq rq mq k (nI 1) wC wM := by
  obtain ⟨-, rfl, hn⟩ := hC
  rcases hM with ⟨-, -, rfl⟩ | ⟨h, -⟩
  · exact INV_id R J HH
  · exact absurd h hn
theorem op_state (R : JR ow wr fi sz wt bl sh tn sn dn ur) (J : JC th co tg wa se ld ow st sl tn sn we tg' se' gr ba dn) (HH : JH hd ∧ JW ow tn dn) {x r r2 : Int32} (hC : (fun r9 w9 => ∃ j, j < tn ∧ x = nI j ∧ r9 = stF wt bl sh j ∧ w9 = DkW d (cq 0) (rq 0) ck hd po st sl le ++ (ClW cq k th co bu tg wa se ld ++ (RqW rq k ow wr fi sz dl wt bl sh so tn sn un))) r wC) (hM : (fun r9 w9 => (¬ (¬ x < 0 ∧ ¬ nI tn ≤ x) ∧ r9 = nI 0 ∧ w9 = MoW mq k (nI 1) ck hd po th we bu tg' se' gr ba tn sn un ow fi sz so wr dn ur dl sl le) ∨ ∃ j, j < tn ∧ x = nI j ∧ r9 = rsF dn ow wr fi sz ur j ∧ w9 = MoW mq k (nI 0) ck hd po th we bu tg' se' gr ba tn sn un ow fi sz so wr dn ur dl sl le) r2 wM) : r = r2 ∧ INV d cq rq mq k (nI 0) wC wM := by
  obtain ⟨j, hj, rfl, rfl, rfl⟩ := hC
  have h5 := R.1
  rcases hM with ⟨hn, -⟩ | ⟨j2, hj2, e, rfl, rfl⟩
  · exact absurd ⟨nI_pos (by omega), nI_ge hj (by omega)⟩ hn
  · obtain rfl := (nI_eq (by omega) (by omega)).mp e
    exact ⟨st_rs R hj, INV_id R J HH⟩
theorem op_state_x (R : JR ow wr fi sz wt bl sh tn sn dn ur) (J : JC th co tg wa se ld ow st sl tn sn we tg' se' gr ba dn) (HH : JH hd ∧ JW ow tn dn) {x r2 : Int32} {E : String} (hC : (fun E w9 => E = IOB ∧ w9 = DkW d (cq 0) (rq 0) ck hd po st sl le ++ (ClW cq k th co bu tg wa se ld ++ (RqW rq k ow wr fi sz dl wt bl sh so tn sn un)) ∧ ¬ (¬ x < 0 ∧ ¬ nI tn ≤ x)) E wC) (hM : (fun r9 w9 => (¬ (¬ x < 0 ∧ ¬ nI tn ≤ x) ∧ r9 = nI 0 ∧ w9 = MoW mq k (nI 1) ck hd po th we bu tg' se' gr ba tn sn un ow fi sz so wr dn ur dl sl le) ∨ ∃ j, j < tn ∧ x = nI j ∧ r9 = rsF dn ow wr fi sz ur j ∧ w9 = MoW mq k (nI 0) ck hd po th we bu tg' se' gr ba tn sn un ow fi sz so wr dn ur dl sl le) r2 wM) : INV d cq rq mq k (nI 1) wC wM := by
  obtain ⟨-, rfl, hn⟩ := hC
  have h5 := R.1
  rcases hM with ⟨-, -, rfl⟩ | ⟨j2, hj2, rfl, -⟩
  · exact INV_id R J HH
  · exact absurd ⟨nI_pos (by omega), nI_ge hj2 (by omega)⟩ hn
theorem op_tag (R : JR ow wr fi sz wt bl sh tn sn dn ur) (J : JC th co tg wa se ld ow st sl tn sn we tg' se' gr ba dn) (HH : JH hd ∧ JW ow tn dn) {x : Int32} {r r2 : Int64} (hC : (fun r9 w9 => w9 = DkW d (cq 0) (rq 0) ck hd po st sl le ++ (ClW cq k th co bu tg wa se ld ++ (RqW rq k ow wr fi sz dl wt bl sh so tn sn un)) ∧ ((x = nI 8 ∧ r9 = st) ∨ (¬ x = nI 8 ∧ ∃ j, j < 8 ∧ x = nI j ∧ ¬ th j = 0 ∧ r9 = tg j))) r wC) (hM : (fun r9 w9 => (¬ x = nI 8 ∧ ¬ isT th x ∧ r9 = 0 ∧ w9 = MoW mq k (nI 1) ck hd po th we bu tg' se' gr ba tn sn un ow fi sz so wr dn ur dl sl le) ∨ (x = nI 8 ∧ r9 = tg' 8 ∧ w9 = MoW mq k (nI 0) ck hd po th we bu tg' se' gr ba tn sn un ow fi sz so wr dn ur dl sl le) ∨ (¬ x = nI 8 ∧ ∃ j, j < 8 ∧ x = nI j ∧ ¬ th j = 0 ∧ r9 = tg' j ∧ w9 = MoW mq k (nI 0) ck hd po th we bu tg' se' gr ba tn sn un ow fi sz so wr dn ur dl sl le)) r2 wM) : r = r2 ∧ INV d cq rq mq k (nI 0) wC wM := by
  obtain ⟨rfl, h⟩ := hC
  rcases h with ⟨rfl, rfl⟩ | ⟨h8, j, hj, rfl, ht, rfl⟩
  · rcases hM with ⟨h, -⟩ | ⟨-, rfl, rfl⟩ | ⟨h, -⟩
    · exact absurd rfl h
    · exact ⟨J.2.2.1.symm, INV_id R J HH⟩
    · exact absurd rfl h
  · rcases hM with ⟨-, h, -⟩ | ⟨h, -⟩ | ⟨-, j2, hj2, e, -, rfl, rfl⟩
    · exact absurd ⟨j, hj, rfl, ht⟩ h
    · exact absurd h h8
    · obtain rfl := (nI_inj8 hj hj2).mp e
      exact ⟨(J.2.1 j hj).symm, INV_id R J HH⟩
theorem op_tag_x (R : JR ow wr fi sz wt bl sh tn sn dn ur) (J : JC th co tg wa se ld ow st sl tn sn we tg' se' gr ba dn) (HH : JH hd ∧ JW ow tn dn) {x : Int32} {r2 : Int64} {E : String} (hC : (fun E w9 => E = IAE ∧ w9 = DkW d (cq 0) (rq 0) ck hd po st sl le ++ (ClW cq k th co bu tg wa se ld ++ (RqW rq k ow wr fi sz dl wt bl sh so tn sn un)) ∧ ¬ x = nI 8 ∧ ¬ isT th x) E wC) (hM : (fun r9 w9 => (¬ x = nI 8 ∧ ¬ isT th x ∧ r9 = 0 ∧ w9 = MoW mq k (nI 1) ck hd po th we bu tg' se' gr ba tn sn un ow fi sz so wr dn ur dl sl le) ∨ (x = nI 8 ∧ r9 = tg' 8 ∧ w9 = MoW mq k (nI 0) ck hd po th we bu tg' se' gr ba tn sn un ow fi sz so wr dn ur dl sl le) ∨ (¬ x = nI 8 ∧ ∃ j, j < 8 ∧ x = nI j ∧ ¬ th j = 0 ∧ r9 = tg' j ∧ w9 = MoW mq k (nI 0) ck hd po th we bu tg' se' gr ba tn sn un ow fi sz so wr dn ur dl sl le)) r2 wM) : INV d cq rq mq k (nI 1) wC wM := by
  obtain ⟨-, rfl, h8, hn⟩ := hC
  rcases hM with ⟨-, -, -, rfl⟩ | ⟨h, -⟩ | ⟨-, j2, hj2, rfl, ht, -⟩
  · exact INV_id R J HH
  · exact absurd h h8
  · exact absurd ⟨j2, hj2, rfl, ht⟩ hn
theorem wa_z (R : JR ow wr fi sz wt bl sh tn sn dn ur) (J : JC th co tg wa se ld ow st sl tn sn we tg' se' gr ba dn) (HH : JH hd ∧ JW ow tn dn) {a : Nat} (ha : a < 8) : (wa a ≤ 0 ↔ wcI dn ow tn a = 0) := by
  have h5 := R.1
  have hle := wcN_le dn ow (nI a) tn
  have hz : wcI dn ow tn a = 0 ↔ wcN dn ow (nI a) tn = 0 := by
    rw [← nI00]; exact nI_eq (by omega) (by decide)
  rw [J.2.2.2.2.2.1 a ha, hz]
  constructor
  · intro h; exact Classical.byContradiction fun q => nI_nle (by omega) (by omega) h
  · intro h; rw [h]; decide
theorem op_lag (R : JR ow wr fi sz wt bl sh tn sn dn ur) (J : JC th co tg wa se ld ow st sl tn sn we tg' se' gr ba dn) (HH : JH hd ∧ JW ow tn dn) {x y : Int32} {r r2 : Int64} (hC : (fun r9 w9 => w9 = DkW d (cq 0) (rq 0) ck hd po st sl le ++ (ClW cq k th co bu tg wa se ld ++ (RqW rq k ow wr fi sz dl wt bl sh so tn sn un)) ∧ ∃ a b, a < 8 ∧ b < 8 ∧ x = nI a ∧ y = nI b ∧ ¬ th a = 0 ∧ ¬ th b = 0 ∧ ¬ x = y ∧ r9 = (if wa a ≤ 0 then 0 else if wa b ≤ 0 then 0 else ld a b)) r wC) (hM : (fun r9 w9 => (¬ (isT th x ∧ isT th y ∧ ¬ x = y) ∧ r9 = 0 ∧ w9 = MoW mq k (nI 1) ck hd po th we bu tg' se' gr ba tn sn un ow fi sz so wr dn ur dl sl le) ∨ ∃ a b, a < 8 ∧ b < 8 ∧ x = nI a ∧ y = nI b ∧ ¬ th a = 0 ∧ ¬ th b = 0 ∧ ¬ x = y ∧ r9 = (if wcI dn ow tn a = 0 then 0 else if wcI dn ow tn b = 0 then 0 else gr a - ba (8 * a + b) - (gr b - ba (8 * b + a))) ∧ w9 = MoW mq k (nI 0) ck hd po th we bu tg' se' gr ba tn sn un ow fi sz so wr dn ur dl sl le) r2 wM) : r = r2 ∧ INV d cq rq mq k (nI 0) wC wM := by
  obtain ⟨rfl, a, b, ha, hb, rfl, rfl, hta, htb, hne, rfl⟩ := hC
  rcases hM with ⟨hn, -⟩ | ⟨a2, b2, ha2, hb2, e1, e2, -, -, -, rfl, rfl⟩
  · exact absurd ⟨⟨a, ha, rfl, hta⟩, ⟨b, hb, rfl, htb⟩, hne⟩ hn
  · obtain rfl := (nI_inj8 ha ha2).mp e1
    obtain rfl := (nI_inj8 hb hb2).mp e2
    refine ⟨?_, INV_id R J HH⟩
    rw [← J.2.2.2.2.2.2.2.2.2.1 a b ha hb]
    simp only [wa_z R J HH ha, wa_z R J HH hb]
theorem op_lag_x (R : JR ow wr fi sz wt bl sh tn sn dn ur) (J : JC th co tg wa se ld ow st sl tn sn we tg' se' gr ba dn) (HH : JH hd ∧ JW ow tn dn) {x y : Int32} {r2 : Int64} {E : String} (hC : (fun E w9 => E = IAE ∧ w9 = DkW d (cq 0) (rq 0) ck hd po st sl le ++ (ClW cq k th co bu tg wa se ld ++ (RqW rq k ow wr fi sz dl wt bl sh so tn sn un)) ∧ ¬ (isT th x ∧ isT th y ∧ ¬ x = y)) E wC) (hM : (fun r9 w9 => (¬ (isT th x ∧ isT th y ∧ ¬ x = y) ∧ r9 = 0 ∧ w9 = MoW mq k (nI 1) ck hd po th we bu tg' se' gr ba tn sn un ow fi sz so wr dn ur dl sl le) ∨ ∃ a b, a < 8 ∧ b < 8 ∧ x = nI a ∧ y = nI b ∧ ¬ th a = 0 ∧ ¬ th b = 0 ∧ ¬ x = y ∧ r9 = (if wcI dn ow tn a = 0 then 0 else if wcI dn ow tn b = 0 then 0 else gr a - ba (8 * a + b) - (gr b - ba (8 * b + a))) ∧ w9 = MoW mq k (nI 0) ck hd po th we bu tg' se' gr ba tn sn un ow fi sz so wr dn ur dl sl le) r2 wM) : INV d cq rq mq k (nI 1) wC wM := by
  obtain ⟨-, rfl, hn⟩ := hC
  rcases hM with ⟨-, -, rfl⟩ | ⟨a, b, ha, hb, rfl, rfl, hta, htb, hne, -⟩
  · exact INV_id R J HH
  · exact absurd ⟨⟨a, ha, rfl, hta⟩, ⟨b, hb, rfl, htb⟩, hne⟩ hn
theorem op_order (R : JR ow wr fi sz wt bl sh tn sn dn ur) (J : JC th co tg wa se ld ow st sl tn sn we tg' se' gr ba dn) (HH : JH hd ∧ JW ow tn dn) {x r r2 : Int32} (hC : (fun r9 w9 => r9 = (sAt so sn x) ∧ w9 = DkW d (cq 0) (rq 0) ck hd po st sl le ++ (ClW cq k th co bu tg wa se ld ++ (RqW rq k ow wr fi sz dl wt bl sh so tn sn un))) r wC) (hM : (fun r9 w9 => r9 = (sAt so sn x) ∧ w9 = MoW mq k (nI 0) ck hd po th we bu tg' se' gr ba tn sn un ow fi sz so wr dn ur dl sl le) r2 wM) : r = r2 ∧ INV d cq rq mq k (nI 0) wC wM := by
  obtain ⟨rfl, rfl⟩ := hC
  obtain ⟨rfl, rfl⟩ := hM
  exact ⟨rfl, _, _, _, _, _, _, _, _, _, _, _, _, _, _, _, _, _, _, _, _, _, _, _, _, _, _, _, _, _, _, _, _, rfl, rfl, R, J, HH⟩
theorem op_count (R : JR ow wr fi sz wt bl sh tn sn dn ur) (J : JC th co tg wa se ld ow st sl tn sn we tg' se' gr ba dn) (HH : JH hd ∧ JW ow tn dn) {x : Int32} {r r2 : Int64} (hC : (fun r9 w9 => r9 = (cnF th wa se tn sn un hd po sl le x) ∧ w9 = DkW d (cq 0) (rq 0) ck hd po st sl le ++ (ClW cq k th co bu tg wa se ld ++ (RqW rq k ow wr fi sz dl wt bl sh so tn sn un))) r wC) (hM : (fun r9 w9 => r9 = (cmF th dn ow se' tn sn un hd po sl le x) ∧ w9 = MoW mq k (nI 0) ck hd po th we bu tg' se' gr ba tn sn un ow fi sz so wr dn ur dl sl le) r2 wM) : r = r2 ∧ INV d cq rq mq k (nI 0) wC wM := by
  obtain ⟨rfl, rfl⟩ := hC
  obtain ⟨rfl, rfl⟩ := hM
  refine ⟨?_, _, _, _, _, _, _, _, _, _, _, _, _, _, _, _, _, _, _, _, _, _, _, _, _, _, _, _, _, _, _, _, _, rfl, rfl, R, J, HH⟩
  have h5 := R.1
  have hsn : sn ≤ tn := by rw [R.2.1]; exact dcN_le dn tn
  unfold cnF cmF
  by_cases h8 : inw x (nI 8) (nI 15)
  · rw [if_pos h8]
    obtain ⟨j, j1, j2, rfl⟩ := ofWd h8 (by decide) (by decide)
    have ne : ∀ n, n < 8 → ¬ nI j = nI n := fun n hn q => by
      have := (nI_eq (by omega) (by omega)).mp q
      omega
    rw [if_neg (ne 0 (by decide)), if_neg (ne 1 (by decide)), if_neg (ne 2 (by decide)), if_neg (ne 3 (by decide)), if_neg (ne 4 (by decide)), if_neg (ne 5 (by decide)), if_neg (ne 6 (by decide)), if_neg (ne 7 (by decide)), if_pos h8, nI_clamp (by omega)]
    obtain ⟨c, c1, c2, c3⟩ := J.2.2.2.2.2.2.2.1 (j - 8) (by omega)
    rw [c2, c3, nI_l (by omega)]
  · rw [if_neg h8]
    by_cases h16 : inw x (nI 16) (nI 23)
    · rw [if_pos h16]
      obtain ⟨j, j1, j2, rfl⟩ := ofWd h16 (by decide) (by decide)
      have ne : ∀ n, n < 8 → ¬ nI j = nI n := fun n hn q => by
        have := (nI_eq (by omega) (by omega)).mp q
        omega
      rw [if_neg (ne 0 (by decide)), if_neg (ne 1 (by decide)), if_neg (ne 2 (by decide)), if_neg (ne 3 (by decide)), if_neg (ne 4 (by decide)), if_neg (ne 5 (by decide)), if_neg (ne 6 (by decide)), if_neg (ne 7 (by decide)), if_neg h8, if_pos h16, nI_clamp (by omega), J.2.2.2.2.2.1 (j - 16) (by omega)]
    · rw [if_neg h16, if_neg h8, if_neg h16]
      unfold cdF
      have hm := hmN_le th 8
      rw [nI_l (n := hmN th 8) (by omega), hm_hm, pk_sub hsn]
theorem SVd (R : JR ow wr fi sz wt bl sh tn sn dn ur) (J : JC th co tg wa se ld ow st sl tn sn we tg' se' gr ba dn) (HH : JH hd ∧ JW ow tn dn) {t o : Nat} {h w : Int32} (ht : t < tn) (h0 : dn t = 0) (ho : o < 8) (how : ow t = nI o) (hw : (h = nI 3 ∧ w = nI 1) ∨ (h = nI 2 ∧ w = nI 0)) : INV d cq rq mq k tr (svW d cq rq k ck hd po st sl le th co bu tg wa se ld ow wr fi sz dl wt bl sh so tn sn un t h o) (svM mq k tr ck hd po th we bu tg' se' gr ba tn sn un ow fi sz so wr dn ur dl sl le t w o) := by
  have hs : sn < tn := by rw [R.2.1]; exact dcN_lt ht h0
  have hR := R.2.2.1 t ht
  obtain ⟨f, z, z1, z2, z3, ef, ez⟩ := id hR
  obtain ⟨⟨hh, hh1, hh2⟩, HW⟩ := id HH
  obtain ⟨q1, -, q3, q4⟩ := JC_serve (le := le) R.1 hs J ht h0 ho how hR
  have hway : abI (fi t - hd) = waF fi hd t := way_eq (f := f) (h := hh) (by omega) hh1 ef hh2
  have hun : (if h = nI 3 then un + 1 else un) = (if w = 0 then un else un + 1) := by
    rcases hw with ⟨a, b⟩ | ⟨a, b⟩
    · rw [a, b, if_pos rfl, if_neg n1_0]
    · rw [a, b, if_neg (by decide), if_pos nI00]
  have e : svM mq k tr ck hd po th we bu tg' se' gr ba tn sn un ow fi sz so wr dn ur dl sl le t w o = svM mq k tr ck hd po th we bu tg' se' gr ba tn sn un ow fi sz so wr dn ur dl sl le t w o := rfl
  unfold svW svM
  rw [hway, hun, ← q3, ← q4]
  exact ⟨_, _, _, _, _, _, _, _, _, _, _, _, _, _, _, _, _, _, _, _, _, _, _, _, _, _, _, _, _, _, _, _, rfl, rfl, JR_serve R ht h0 hw, q1, ⟨f + z, z3, by rw [ef, ez, nI_add]⟩, fun i hi => by have := wcN_serve (ow := ow) (x := nI i) h0 tn; have := HW i hi; omega⟩
theorem op_dispatch (R : JR ow wr fi sz wt bl sh tn sn dn ur) (J : JC th co tg wa se ld ow st sl tn sn we tg' se' gr ba dn) (HH : JH hd ∧ JW ow tn dn) {r r2 : Int32} (hC : (fun r9 w9 => (∃ t o, muF wt bl sh dl ck tn = some t ∧ o < 8 ∧ ow t = nI o ∧ r9 = nI t ∧ w9 = svW d cq rq k ck hd po st sl le th co bu tg wa se ld ow wr fi sz dl wt bl sh so tn sn un t (nI 3) o) ∨ (muF wt bl sh dl ck tn = none ∧ ∃ sl1 le1 st1, bsP sl le st wa bu tg sl1 le1 st1 ∧ ((naF ow fi wt bl sh sl1 hd tn = none ∧ r9 = -1 ∧ w9 = DkW d (cq 0) (rq 0) ck hd po st1 sl1 le1 ++ (ClW cq k th co bu tg wa se ld ++ (RqW rq k ow wr fi sz dl wt bl sh so tn sn un))) ∨ ∃ t o, naF ow fi wt bl sh sl1 hd tn = some t ∧ o < 8 ∧ ow t = nI o ∧ r9 = nI t ∧ w9 = svW d cq rq k ck hd po st1 sl1 le1 th co bu tg wa se ld ow wr fi sz dl wt bl sh so tn sn un t (nI 2) o))) r wC) (hM : (fun r9 w9 => (sn = tn ∧ r9 = -1 ∧ w9 = MoW mq k (nI 0) ck hd po th we bu tg' se' gr ba tn sn un ow fi sz so wr dn ur dl sl le) ∨ (¬ sn = tn ∧ ((∃ t o, duF dn ow wr fi sz dl ck tn = some t ∧ o < 8 ∧ ow t = nI o ∧ r9 = nI t ∧ w9 = svM mq k (nI 0) ck hd po th we bu tg' se' gr ba tn sn un ow fi sz so wr dn ur dl sl le t (nI 1) o) ∨ (duF dn ow wr fi sz dl ck tn = none ∧ ∃ sl1 le1 tg1, chP sl le tg' dn ow bu tn sl1 le1 tg1 ∧ ∃ t o, nxF dn ow wr fi sz sl1 hd tn = some t ∧ o < 8 ∧ ow t = nI o ∧ r9 = nI t ∧ w9 = svM mq k (nI 0) ck hd po th we bu tg1 se' gr ba tn sn un ow fi sz so wr dn ur dl sl1 le1 t (nI 0) o)))) r2 wM) : r = r2 ∧ INV d cq rq mq k (nI 0) wC wM := by
  have hmu := mu_du (dl := dl) (ck := ck) R tn (Nat.le_refl _)
  rcases hC with ⟨t, o, h1, ho, how, rfl, rfl⟩ | ⟨h1, sl1, le1, st1, hb, hC⟩
  · have ht := muF_lt _ _ h1
    have hc := (fre_iff R ht).mp (muF_st _ _ h1).1
    have hs : ¬ sn = tn := by
      have := dcN_lt ht hc.1
      rw [R.2.1]; omega
    rw [hmu] at h1
    rcases hM with ⟨h, -⟩ | ⟨-, ⟨t2, o2, g1, g2, g3, rfl, rfl⟩ | ⟨g1, -⟩⟩
    · exact absurd h hs
    · cases h1.symm.trans g1
      obtain rfl := (nI_inj8 ho g2).mp (how.symm.trans g3)
      exact ⟨rfl, SVd (tr := nI 0) R J HH ht hc.1 ho how (Or.inl ⟨rfl, rfl⟩)⟩
    · cases h1.symm.trans g1
  · rw [hmu] at h1
    have hna := fun s1 => na_nx (o := s1) (x := hd) R tn (Nat.le_refl _)
    rcases hM with ⟨h, rfl, rfl⟩ | ⟨hs, ⟨t2, o2, g1, -⟩ | ⟨-, s2, l2, t2', hc, t, o, g1, ho, how, rfl, rfl⟩⟩
    · -- nobody waits
      have hall : ∀ t, t < tn → ¬ dn t = 0 := fun t ht q => by
        have := dcN_lt ht q
        rw [R.2.1] at h; omega
      have hw0 : ∀ i, wcN dn ow (nI i) tn = 0 := fun i => Classical.byContradiction fun q => by
        obtain ⟨t, a, b, -⟩ := wcN_ex (Nat.pos_of_ne_zero q)
        exact hall t a b
      have hsl : sl = -1 := by
        rcases J.2.2.2.2.2.2.2.2.2.2 with q | ⟨o, -, -, q⟩
        · exact q
        · exact absurd (hw0 o) (by omega)
      have hnit : nit wa tg 8 = none := by
        rw [nit_tie J]
        cases hq : nit (wcI dn ow tn) tg' 8 with
        | none => rfl
        | some j => exact absurd (hw0 j) (by have := (wcI_pos R.1).mp (nit_pos hq); omega)
      have hnone : ∀ s1, naF ow fi wt bl sh s1 hd tn = none := by
        intro s1
        cases hq : naF ow fi wt bl sh s1 hd tn with
        | none => rfl
        | some j =>
          have hj := naF_lt _ _ hq
          exact absurd ((fre_iff R hj).mp (naF_st _ _ hq).1).1 (hall j hj)
      rcases hb with ⟨-, rfl, rfl, rfl⟩ | ⟨q, -⟩
      · rcases hC with ⟨-, rfl, rfl⟩ | ⟨t, o, q, -⟩
        · rw [hnit]
          exact ⟨rfl, _, _, _, _, _, _, _, _, _, _, _, _, _, _, _, _, _, _, _, _, _, _, _, _, _, _, _, _, _, _, _, _, rfl, rfl, R, J, HH⟩
        · rw [hnone] at q; cases q
      · exact absurd hsl q
    · cases h1.symm.trans g1
    · have ht := nxF_lt _ _ g1
      rcases hb with ⟨a, rfl, rfl, rfl⟩ | ⟨a, rfl, rfl, rfl⟩
      · rcases hc with ⟨a2, -⟩ | ⟨-, j, hj, rfl, rfl, rfl⟩
        · exact absurd a a2
        · rw [nit_tie J, hj] at hC
          have J2 := JC_begin R.1 J hj
          rcases hC with ⟨q, -⟩ | ⟨t3, o3, q, ho3, how3, rfl, rfl⟩
          · rw [hna] at q
            cases g1.symm.trans q
          · rw [hna] at q
            cases g1.symm.trans q
            obtain rfl := (nI_inj8 ho ho3).mp (how.symm.trans how3)
            have hcg := (fre_iff R ht).mp (naF_st (o := nI j) (x := hd) tn t (by rw [hna]; exact g1)).1
            exact ⟨rfl, SVd (tr := nI 0) R J2 HH ht hcg.1 ho how (Or.inr ⟨rfl, rfl⟩)⟩
      · rcases hc with ⟨-, rfl, rfl, rfl⟩ | ⟨a2, -⟩
        · rcases hC with ⟨q, -⟩ | ⟨t3, o3, q, ho3, how3, rfl, rfl⟩
          · rw [hna] at q
            cases g1.symm.trans q
          · rw [hna] at q
            cases g1.symm.trans q
            obtain rfl := (nI_inj8 ho ho3).mp (how.symm.trans how3)
            have hcg := (fre_iff R ht).mp (naF_st tn t ((hna _).trans g1)).1
            exact ⟨rfl, SVd (tr := nI 0) R J HH ht hcg.1 ho how (Or.inr ⟨rfl, rfl⟩)⟩
        · exact absurd a2 a
end OPS
