/-! The tables of leads and bases, tags, sums. -/
theorem u2_at {L : Nat → Nat → Int64} {x y a b : Nat} {v : Int64} : va_up L x (vp_updL (L x) y v) a b = if a = x ∧ b = y then v else L a b := by
  unfold va_up vp_updL
  by_cases h1 : a = x
  · subst h1
    by_cases h2 : b = y <;> simp [h2]
  · simp [h1]
theorem fgL_at {ld : Nat → Nat → Int64} {id : Nat} : ∀ (n a b : Nat), fgL ld id n a b = if (a = id ∧ b < n) ∨ (b = id ∧ a < n) then 0 else ld a b
  | 0, a, b => by rw [fgL, if_neg (by omega)]
  | n + 1, a, b => by
    have ih := fgL_at (ld := ld) (id := id) n a b
    rw [fgL, u2_at, u2_at, ih]
    grind
theorem nsL_at {ld : Nat → Nat → Int64} {id : Nat} {g : Int64} : ∀ (n a b : Nat), nsL ld id g n a b = ld a b + (if a = id ∧ b < n then g else 0) - (if b = id ∧ a < n then g else 0)
  | 0, a, b => by
    rw [nsL, if_neg (by omega), if_neg (by omega)]
    simp
  | n + 1, a, b => by
    have ih := nsL_at (ld := ld) (id := id) (g := g) n a b
    have i1 := nsL_at (ld := ld) (id := id) (g := g) n id n
    have i2 := nsL_at (ld := ld) (id := id) (g := g) n n id
    rw [nsL, u2_at, u2_at, u2_at, ih, i1, i2]
    by_cases h1 : a = n <;> by_cases h2 : b = id <;> by_cases h3 : a = id <;> by_cases h4 : b = n <;> by_cases h5 : n = id <;> grind
theorem beB_at {ba gr : Nat → Int64} {id : Nat} (hid : id < 8) : ∀ (n a b : Nat), n ≤ 8 → a < 8 → b < 8 → beB ba gr id n (8 * a + b) = if a = id ∧ b < n then gr id else if b = id ∧ a < n then gr a else ba (8 * a + b)
  | 0, a, b, _, _, _ => by rw [beB, if_neg (by omega), if_neg (by omega)]
  | n + 1, a, b, hn, ha, hb => by
    have ih := beB_at (ba := ba) (gr := gr) hid n a b (by omega) ha hb
    rw [beB]
    simp only [vp_updL]
    by_cases h1 : a = n ∧ b = id
    · obtain ⟨rfl, rfl⟩ := h1
      rw [if_pos rfl]
      by_cases h2 : a = b
      · subst h2; rw [if_pos ⟨rfl, by omega⟩]
      · rw [if_neg (by omega), if_pos ⟨rfl, by omega⟩]
    · rw [if_neg (by omega)]
      by_cases h2 : a = id ∧ b = n
      · obtain ⟨rfl, rfl⟩ := h2
        rw [if_pos rfl, if_pos ⟨rfl, by omega⟩]
      · rw [if_neg (by omega), ih]
        have e1 : (a = id ∧ b < n + 1) ↔ (a = id ∧ b < n) := by omega
        have e2 : (b = id ∧ a < n + 1) ↔ (b = id ∧ a < n) := by omega
        simp only [e1, e2]
theorem smT_lo {th : Nat → Int32} {T : Nat → Int64} : ∀ (n i : Nat), i < 8 → smT th T n i = T i
  | 0, _, _ => rfl
  | n + 1, i, hi => by rw [smT, pk_uLn (by omega), smT_lo n i hi]
theorem smT_gt {th : Nat → Int32} {T tg : Nat → Int64} (h : ∀ i, i < 8 → T i = tg i) : ∀ n, n ≤ 8 → smT th T n 8 = gtF th tg (T 8) n
  | 0, _ => rfl
  | n + 1, hn => by
    have ih := smT_gt (th := th) h n (by omega)
    rw [smT, pk_uLs, gtF, ih, smT_lo n n (by omega), h n (by omega)]
    split
    · rfl
    · unfold mxL
      by_cases h1 : tg n ≤ gtF th tg (T 8) n
      · rw [if_pos h1]
        by_cases h2 : tg n < gtF th tg (T 8) n
        · rw [if_pos h2]
        · rw [if_neg h2]
          exact Int64.le_antisymm (Int64.not_lt.mp h2) h1
      · rw [if_neg h1, if_neg (fun q => h1 (Int64.le_of_lt q))]
theorem gtF_congr {th : Nat → Int32} {tg tg2 : Nat → Int64} {x : Int64} : ∀ n, (∀ i, i < n → tg i = tg2 i) → gtF th tg x n = gtF th tg2 x n
  | 0, _ => rfl
  | n + 1, h => by rw [gtF, gtF, gtF_congr n (fun i hi => h i (by omega)), h n (by omega)]
theorem hmN_le (th : Nat → Int32) : ∀ n, hmN th n ≤ n
  | 0 => Nat.le_refl _
  | n + 1 => by
    have := hmN_le th n
    rw [hmN]; split <;> omega
theorem hm_hm {th : Nat → Int32} : ∀ n, lN (hmN th n) = hmL th n
  | 0 => rfl
  | n + 1 => by
    rw [hmN, hmL, ← hm_hm n]
    split
    · simp
    · rw [lN_1]
theorem growth {v z : Nat} (h1 : 1 ≤ v) (h2 : v ≤ 12) (hz : z ≤ 64) : (nI (27720 / v)).toInt64 * (nI z).toInt64 = (27720) * (nI z).toInt64 / (nI v).toInt64 := by
  have e : (27720 : Int64) = lN 27720 := rfl
  have hq : 27720 / v ≤ 27720 := Nat.div_le_self _ _
  have hm : 27720 * z ≤ 27720 * 64 := Nat.mul_le_mul_left _ hz
  rw [e, nI_l (by omega), nI_l (by omega), nI_l (by omega), lN_mul, lN_mul, pk_lDiv (by omega) (by omega) (by omega)]
  congr 1
  rcases (show v = 1 ∨ v = 2 ∨ v = 3 ∨ v = 4 ∨ v = 5 ∨ v = 6 ∨ v = 7 ∨ v = 8 ∨ v = 9 ∨ v = 10 ∨ v = 11 ∨ v = 12 by omega) with h | h | h | h | h | h | h | h | h | h | h | h <;> subst h <;> omega
theorem way_eq {fi : Nat → Int32} {hd : Int32} {t f h : Nat} (hf : f ≤ 100000) (hh : h ≤ 100000) (e1 : fi t = nI f) (e2 : hd = nI h) : abI (fi t - hd) = waF fi hd t := by
  unfold abI waF
  rw [e1, e2]
  by_cases q : f ≤ h
  · rw [if_pos (nI_le q (by omega))]
    by_cases q2 : f = h
    · subst q2
      rw [pk_sub (Nat.le_refl _), Nat.sub_self, if_pos (by decide)]
    · rw [if_neg (fun c => by have := pk_sneg (a := f) (b := h) (by omega) (by omega); exact absurd c (Int32.not_le.mpr this))]
      rw [pk_sub q]
      have : nI f - nI h = 0 - nI (h - f) := by
        have e := pk_sub (a := h) (b := f) q
        rw [← e]
        grind
      rw [this]
      grind
  · rw [if_neg (nI_ge (by omega) (by omega)), pk_sub (by omega), if_pos (nI_pos' (by omega))]
theorem mx_eq {x y : Int64} : mxL x y = if x ≤ y then y else x := by
  unfold mxL
  by_cases h : x ≤ y
  · rw [if_neg (Int64.not_lt.mpr h), if_pos h]
  · rw [if_pos (Int64.not_le.mp h), if_neg h]
