/-! Counting, and how the class's words are tied to the reference's. -/
def dcN (dn : Nat → Int32) : Nat → Nat
  | 0 => 0
  | t + 1 => if dn t = 0 then dcN dn t else dcN dn t + 1
def bcN (dn ow wr fi sz : Nat → Int32) (t : Nat) : Nat → Nat
  | 0 => 0
  | u + 1 => if dn u = 0 ∧ mkO ow wr fi sz u t then bcN dn ow wr fi sz t u + 1 else bcN dn ow wr fi sz t u
theorem dcN_le (dn : Nat → Int32) : ∀ n, dcN dn n ≤ n
  | 0 => Nat.le_refl _
  | n + 1 => by
    have := dcN_le dn n
    rw [dcN]; split <;> omega
theorem dcN_lt {dn : Nat → Int32} : ∀ {n t : Nat}, t < n → dn t = 0 → dcN dn n < n
  | 0, t, h, _ => absurd h (Nat.not_lt_zero _)
  | n + 1, t, h, h0 => by
    rw [dcN]
    by_cases e : t = n
    · subst e
      rw [if_pos h0]
      have := dcN_le dn t
      omega
    · have := dcN_lt (show t < n by omega) h0
      split <;> omega
theorem dcN_ex {dn : Nat → Int32} : ∀ {n : Nat}, dcN dn n ≠ n → ∃ t, t < n ∧ dn t = 0
  | 0, h => absurd rfl h
  | n + 1, h => by
    by_cases e : dn n = 0
    · exact ⟨n, by omega, e⟩
    · rw [dcN, if_neg e] at h
      obtain ⟨t, h1, h2⟩ := dcN_ex (dn := dn) (n := n) (fun q => h (by rw [q]))
      exact ⟨t, by omega, h2⟩
theorem wcN_le (dn ow : Nat → Int32) (x : Int32) : ∀ n, wcN dn ow x n ≤ n
  | 0 => Nat.le_refl _
  | n + 1 => by
    have := wcN_le dn ow x n
    rw [wcN]; split
    · split <;> omega
    · omega
theorem wcN_pos {dn ow : Nat → Int32} {x : Int32} : ∀ {n t : Nat}, t < n → dn t = 0 → ow t = x → 0 < wcN dn ow x n
  | 0, t, h, _, _ => absurd h (Nat.not_lt_zero _)
  | n + 1, t, h, h0, hx => by
    rw [wcN]
    by_cases e : t = n
    · subst e
      rw [if_pos h0, if_pos hx]; omega
    · have := wcN_pos (show t < n by omega) h0 hx
      split
      · split <;> omega
      · omega
theorem wcN_ex {dn ow : Nat → Int32} {x : Int32} : ∀ {n : Nat}, 0 < wcN dn ow x n → ∃ t, t < n ∧ dn t = 0 ∧ ow t = x
  | 0, h => absurd h (Nat.lt_irrefl _)
  | n + 1, h => by
    rw [wcN] at h
    split at h
    · split at h
      · exact ⟨n, by omega, by assumption, by assumption⟩
      · obtain ⟨t, h1, h2⟩ := wcN_ex h
        exact ⟨t, by omega, h2⟩
    · obtain ⟨t, h1, h2⟩ := wcN_ex h
      exact ⟨t, by omega, h2⟩
theorem bcN_le (dn ow wr fi sz : Nat → Int32) (t : Nat) : ∀ n, bcN dn ow wr fi sz t n ≤ n
  | 0 => Nat.le_refl _
  | n + 1 => by
    have := bcN_le dn ow wr fi sz t n
    rw [bcN]; split <;> omega
theorem ib_bc {dn ow wr fi sz : Nat → Int32} {t : Nat} : ∀ n, ibB dn ow wr fi sz t n = true ↔ 0 < bcN dn ow wr fi sz t n
  | 0 => by simp [ibB, bcN]
  | n + 1 => by
    rw [ibB, bcN, Bool.or_eq_true, ib_bc n, decide_eq_true_iff]
    split
    · constructor
      · intro _; omega
      · intro _; right; assumption
    · constructor
      · rintro (h | h)
        · exact h
        · exact absurd h (by assumption)
      · intro h; exact Or.inl h
theorem bcN_ex {dn ow wr fi sz : Nat → Int32} {t : Nat} : ∀ {n : Nat}, 0 < bcN dn ow wr fi sz t n → ∃ u, u < n ∧ dn u = 0 ∧ mkO ow wr fi sz u t
  | 0, h => absurd h (Nat.lt_irrefl _)
  | n + 1, h => by
    rw [bcN] at h
    split at h
    · rename_i h1
      exact ⟨n, by omega, h1.1, h1.2⟩
    · obtain ⟨u, h1, h2⟩ := bcN_ex h
      exact ⟨u, by omega, h2⟩
/-! a service -/
theorem n1_0 : ¬ nI 1 = 0 := by decide
theorem wcN_serve {dn ow : Nat → Int32} {x : Int32} {t : Nat} (h0 : dn t = 0) : ∀ n, wcN (upd dn t (nI 1)) ow x n + (if t < n ∧ ow t = x then 1 else 0) = wcN dn ow x n
  | 0 => by simp [wcN]
  | n + 1 => by
    have ih := wcN_serve (ow := ow) (x := x) h0 n
    rw [wcN, wcN]
    by_cases e : n = t
    · subst e
      rw [pk_us, if_neg n1_0, if_pos h0]
      rw [if_neg (fun h => absurd h.1 (Nat.lt_irrefl _))] at ih
      by_cases hx : ow n = x
      · rw [if_pos ⟨by omega, hx⟩, if_pos hx]; omega
      · rw [if_neg (fun h => hx h.2), if_neg hx]; omega
    · rw [pk_un e]
      have hs : (if t < n + 1 ∧ ow t = x then 1 else 0) = (if t < n ∧ ow t = x then 1 else 0) := by
        by_cases h : t < n
        · simp [h, Nat.lt_succ_of_lt h]
        · simp [h, show ¬ t < n + 1 by omega]
      rw [hs]
      split
      · split <;> omega
      · omega
theorem dcN_serve {dn : Nat → Int32} {t : Nat} (h0 : dn t = 0) : ∀ n, dcN (upd dn t (nI 1)) n = dcN dn n + (if t < n then 1 else 0)
  | 0 => by simp [dcN]
  | n + 1 => by
    have ih := dcN_serve h0 n
    rw [dcN, dcN]
    by_cases e : n = t
    · subst e
      rw [pk_us, if_neg n1_0, if_pos h0, if_pos (Nat.lt_succ_self _)]
      rw [if_neg (Nat.lt_irrefl _)] at ih
      omega
    · rw [pk_un e]
      have hs : (if t < n + 1 then 1 else 0) = (if t < n then 1 else 0) := by
        by_cases h : t < n
        · simp [h, Nat.lt_succ_of_lt h]
        · simp [h, show ¬ t < n + 1 by omega]
      rw [hs]
      split <;> omega
theorem bcN_serve {dn ow wr fi sz : Nat → Int32} {t e : Nat} (h0 : dn t = 0) : ∀ n, bcN (upd dn t (nI 1)) ow wr fi sz e n + (if t < n ∧ mkO ow wr fi sz t e then 1 else 0) = bcN dn ow wr fi sz e n
  | 0 => by simp [bcN]
  | n + 1 => by
    have ih := bcN_serve (ow := ow) (wr := wr) (fi := fi) (sz := sz) (e := e) h0 n
    rw [bcN, bcN]
    by_cases e1 : n = t
    · subst e1
      rw [pk_us, if_neg (fun h => n1_0 h.1)]
      rw [if_neg (fun h => absurd h.1 (Nat.lt_irrefl _))] at ih
      by_cases hx : mkO ow wr fi sz n e
      · rw [if_pos ⟨by omega, hx⟩, if_pos ⟨h0, hx⟩]; omega
      · rw [if_neg (fun h => hx h.2), if_neg (fun h => hx h.2)]; omega
    · rw [pk_un e1]
      have hs : (if t < n + 1 ∧ mkO ow wr fi sz t e then 1 else 0) = (if t < n ∧ mkO ow wr fi sz t e then 1 else 0) := by
        by_cases h : t < n
        · simp only [h, Nat.lt_succ_of_lt h]
        · simp only [h, show ¬ t < n + 1 by omega]
      rw [hs]
      split <;> omega
theorem msB_at {ow wr fi sz bl : Nat → Int32} {t e : Nat} : ∀ n, msB ow wr fi sz bl t n e = if e < n ∧ t < e ∧ mkO ow wr fi sz t e then bl e - nI 1 else bl e
  | 0 => by simp [msB]
  | n + 1 => by
    have ih := msB_at (ow := ow) (wr := wr) (fi := fi) (sz := sz) (bl := bl) (t := t) (e := e) n
    have ihn := msB_at (ow := ow) (wr := wr) (fi := fi) (sz := sz) (bl := bl) (t := t) (e := n) n
    rw [if_neg (fun h => absurd h.1 (Nat.lt_irrefl _))] at ihn
    rw [msB]
    by_cases e1 : e = n
    · subst e1
      by_cases h1 : t < e
      · rw [if_pos h1]
        by_cases h2 : mkO ow wr fi sz t e
        · rw [if_pos h2, pk_us, ihn, if_pos ⟨Nat.lt_succ_self _, h1, h2⟩]
        · rw [if_neg h2, ihn, if_neg (fun h => h2 h.2.2)]
      · rw [if_neg h1, ihn, if_neg (fun h => h1 h.2.1)]
    · have hs : (e < n + 1 ∧ t < e ∧ mkO ow wr fi sz t e) ↔ (e < n ∧ t < e ∧ mkO ow wr fi sz t e) := by
        constructor
        · rintro ⟨a, b⟩; exact ⟨by omega, b⟩
        · rintro ⟨a, b⟩; exact ⟨by omega, b⟩
      have goal2 : (if t < n then (if mkO ow wr fi sz t n then upd (msB ow wr fi sz bl t n) n (msB ow wr fi sz bl t n n - nI 1) else msB ow wr fi sz bl t n) else msB ow wr fi sz bl t n) e = msB ow wr fi sz bl t n e := by
        split
        · split
          · exact pk_un e1
          · rfl
        · rfl
      rw [goal2, ih]
      simp only [hs]
/-! a request comes -/
theorem wcN_congr {dn ow ow' : Nat → Int32} {x : Int32} : ∀ n, (∀ u, u < n → ow' u = ow u) → wcN dn ow' x n = wcN dn ow x n
  | 0, _ => rfl
  | n + 1, h => by rw [wcN, wcN, wcN_congr n (fun u hu => h u (by omega)), h n (by omega)]
theorem bcN_congr {dn ow wr fi sz ow' wr' fi' sz' : Nat → Int32} {t : Nat} : ∀ n, (∀ u, u < n → (mkO ow' wr' fi' sz' u t ↔ mkO ow wr fi sz u t)) → bcN dn ow' wr' fi' sz' t n = bcN dn ow wr fi sz t n
  | 0, _ => rfl
  | n + 1, h => by
    rw [bcN, bcN, bcN_congr n (fun u hu => h u (by omega))]
    simp only [h n (by omega)]
theorem adB_at {ow wr fi sz wt bl dn : Nat → Int32} {t e : Nat} : ∀ n, (∀ u, u < n → (¬ wt u = 0 ↔ dn u = 0)) → adB ow wr fi sz wt bl t n e = if e = t then bl t + nI (bcN dn ow wr fi sz t n) else bl e
  | 0, _ => by
    rw [adB, bcN]
    split
    · rename_i h; subst h
      show bl e = bl e + 0
      simp
    · rfl
  | n + 1, h => by
    have ih := fun e => adB_at (ow := ow) (wr := wr) (fi := fi) (sz := sz) (bl := bl) (t := t) (e := e) n (fun u hu => h u (by omega))
    have hn := h n (by omega)
    rw [adB]
    by_cases h0 : wt n = 0
    · have hd : ¬ dn n = 0 := fun q => (hn.mpr q) h0
      have hb : bcN dn ow wr fi sz t (n + 1) = bcN dn ow wr fi sz t n := by rw [bcN, if_neg (fun q => hd q.1)]
      rw [if_pos h0, hb]
      exact ih e
    · have hd := hn.mp h0
      rw [if_neg h0]
      by_cases hm : mkO ow wr fi sz n t
      · have hb : bcN dn ow wr fi sz t (n + 1) = bcN dn ow wr fi sz t n + 1 := by rw [bcN, if_pos ⟨hd, hm⟩]
        rw [if_pos hm, hb]
        by_cases he : e = t
        · subst he
          rw [pk_us, ih e, if_pos rfl, if_pos rfl, Int32.add_assoc, nI_add]
        · rw [pk_un he, ih e, if_neg he, if_neg he]
      · have hb : bcN dn ow wr fi sz t (n + 1) = bcN dn ow wr fi sz t n := by rw [bcN, if_neg (fun q => hm q.2)]
        rw [if_neg hm, hb]
        exact ih e
/-! The tie. -/
abbrev GW (we co : Nat → Int32) (i : Nat) : Prop := ∃ v : Nat, 1 ≤ v ∧ v ≤ 12 ∧ we i = nI v ∧ co i = nI (27720 / v)
abbrev RT (fi sz : Nat → Int32) (t : Nat) : Prop := ∃ f c : Nat, 1 ≤ c ∧ c ≤ 64 ∧ f + c ≤ 100000 ∧ fi t = nI f ∧ sz t = nI c
abbrev DT (dn wt sh ur : Nat → Int32) (t : Nat) : Prop := (dn t = 0 ∧ wt t = 1) ∨ (dn t = 1 ∧ wt t = 0 ∧ sh t = if ur t = 0 then nI 2 else nI 3)
/-- the requests of both -/
def JR (ow wr fi sz wt bl sh : Nat → Int32) (tn sn : Nat) (dn ur : Nat → Int32) : Prop :=
  tn ≤ 500 ∧ sn = dcN dn tn ∧ (∀ t, t < tn → RT fi sz t) ∧ (∀ t, t < tn → DT dn wt sh ur t) ∧ (∀ t, tn ≤ t → dn t = 0 ∧ bl t = 0) ∧ (∀ t, t < tn → bl t = nI (bcN dn ow wr fi sz t t))
/-- the clients of both -/
def JC (th co : Nat → Int32) (tg : Nat → Int64) (wa se : Nat → Int32) (ld : Nat → Nat → Int64) (ow : Nat → Int32) (st : Int64) (sl : Int32) (tn sn : Nat) (we : Nat → Int32) (tg' se' gr ba : Nat → Int64) (dn : Nat → Int32) : Prop :=
  (∀ i, th i = 0 ∨ th i = 1) ∧ (∀ i, i < 8 → tg' i = tg i) ∧ tg' 8 = st ∧ (∀ i, i < 8 → ¬ th i = 0 → GW we co i) ∧ (∀ t, t < tn → ∃ o, o < 8 ∧ ow t = nI o ∧ GW we co o) ∧
  (∀ i, i < 8 → wa i = nI (wcN dn ow (nI i) tn)) ∧ (∀ i, i < 8 → th i = 0 → wcN dn ow (nI i) tn = 0) ∧ (∀ i, i < 8 → ∃ c : Nat, c ≤ 64 * sn ∧ se i = nI c ∧ se' i = lN c) ∧ (∀ i, i < 8 → th i = 0 → se i = nI 0) ∧
  (∀ a b, a < 8 → b < 8 → ld a b = gr a - ba (8 * a + b) - (gr b - ba (8 * b + a))) ∧ (sl = -1 ∨ ∃ o, o < 8 ∧ sl = nI o ∧ 0 < wcN dn ow (nI o) tn)
def JH (hd : Int32) : Prop := ∃ h : Nat, h ≤ 100000 ∧ hd = nI h
/-! who can go -/
theorem i1_0 : ¬ (1 : Int32) = 0 := by decide
theorem fre_iff {ow wr fi sz wt bl sh : Nat → Int32} {tn sn : Nat} {dn ur : Nat → Int32} (J : JR ow wr fi sz wt bl sh tn sn dn ur) {t : Nat} (ht : t < tn) : stF wt bl sh t = nI 1 ↔ cgP dn ow wr fi sz t := by
  obtain ⟨h5, -, -, hD, -, hB⟩ := J
  have hb := hB t ht
  have hle := bcN_le dn ow wr fi sz t t
  rcases hD t ht with ⟨h1, h2⟩ | ⟨h1, h2, h3⟩
  · rw [stF, if_neg (by rw [h2]; exact i1_0), hb]
    by_cases hz : bcN dn ow wr fi sz t t = 0
    · rw [hz, if_pos (show nI 0 ≤ 0 by decide)]
      exact ⟨fun _ => ⟨h1, fun q => by have := (ib_bc t).mp q; omega⟩, fun _ => rfl⟩
    · rw [if_neg (nI_nle (by omega) (by omega))]
      refine ⟨fun q => absurd q (by decide), fun q => absurd ((ib_bc t).mpr (by omega)) q.2⟩
  · rw [stF, if_pos h2, h3]
    constructor
    · intro q
      exfalso
      split at q
      · exact absurd q (by decide)
      · exact absurd q (by decide)
    · intro q
      exact absurd q.1 (by rw [h1]; exact i1_0)
theorem st_rs {ow wr fi sz wt bl sh : Nat → Int32} {tn sn : Nat} {dn ur : Nat → Int32} (J : JR ow wr fi sz wt bl sh tn sn dn ur) {t : Nat} (ht : t < tn) : stF wt bl sh t = rsF dn ow wr fi sz ur t := by
  obtain ⟨h5, -, -, hD, -, hB⟩ := J
  have hb := hB t ht
  have hle := bcN_le dn ow wr fi sz t t
  rcases hD t ht with ⟨h1, h2⟩ | ⟨h1, h2, h3⟩
  · rw [stF, rsF, if_neg (by rw [h2]; exact i1_0), if_pos h1, hb]
    by_cases hz : bcN dn ow wr fi sz t t = 0
    · rw [hz, if_pos (show nI 0 ≤ 0 by decide), if_neg (fun q => by have := (ib_bc t).mp q; omega)]
    · rw [if_neg (nI_nle (by omega) (by omega)), if_pos ((ib_bc t).mpr (by omega))]
  · rw [stF, rsF, if_pos h2, h3, if_neg (show ¬ dn t = 0 by rw [h1]; exact i1_0)]
theorem mu_du {ow wr fi sz wt bl sh : Nat → Int32} {tn sn : Nat} {dn ur : Nat → Int32} {dl : Nat → Int64} {ck : Int64} (J : JR ow wr fi sz wt bl sh tn sn dn ur) : ∀ n, n ≤ tn → muF wt bl sh dl ck n = duF dn ow wr fi sz dl ck n
  | 0, _ => rfl
  | n + 1, h => by
    have hf := fre_iff J (t := n) (by omega)
    rw [muF, duF, mu_du J n (by omega)]
    by_cases hc : cgP dn ow wr fi sz n
    · rw [if_pos (hf.mpr hc), if_pos hc]
      by_cases hd : dl n ≤ ck
      · rw [if_neg (Int64.not_lt.mpr hd), if_pos hd]
        cases duF dn ow wr fi sz dl ck n <;> rfl
      · rw [if_pos (Int64.not_le.mp hd), if_neg hd]
    · rw [if_neg (fun q => hc (hf.mp q)), if_neg hc]
theorem tu_ah {fi : Nat → Int32} {h : Int32} {t : Nat} : tuF fi h t = ahF fi h t := by
  unfold tuF ahF
  by_cases q : h ≤ fi t
  · rw [if_neg (Int32.not_lt.mpr q), if_pos q]
  · rw [if_pos (Int32.not_le.mp q), if_neg q]
theorem na_nx {ow wr fi sz wt bl sh : Nat → Int32} {tn sn : Nat} {dn ur : Nat → Int32} {o x : Int32} (J : JR ow wr fi sz wt bl sh tn sn dn ur) : ∀ n, n ≤ tn → naF ow fi wt bl sh o x n = nxF dn ow wr fi sz o x n
  | 0, _ => rfl
  | n + 1, h => by
    have hf := fre_iff J (t := n) (by omega)
    rw [naF, nxF, na_nx J n (by omega)]
    by_cases hc : cgP dn ow wr fi sz n
    · rw [if_pos (hf.mpr hc)]
      by_cases hw : ow n = o
      · rw [if_pos hw, if_pos hw, if_pos hc]
        cases nxF dn ow wr fi sz o x n with
        | none => rfl
        | some j =>
          show (if tuF fi x j ≤ tuF fi x n then some j else some n) = if ahF fi x j ≤ ahF fi x n then some j else some n
          rw [tu_ah, tu_ah]
      · rw [if_neg hw, if_neg hw]
    · rw [if_neg (fun q => hc (hf.mp q)), if_neg hc]
      split <;> rfl
theorem nit_congr {wa wa' : Nat → Int32} {tg tg' : Nat → Int64} : ∀ n, (∀ i, i < n → wa i = wa' i ∧ tg i = tg' i) → nit wa tg n = nit wa' tg' n
  | 0, _ => rfl
  | n + 1, h => by
    have ih := nit_congr n (fun i hi => h i (by omega))
    rw [nit, nit, ih, (h n (by omega)).1]
    split
    · rfl
    · split
      · rfl
      · rename_i j hj
        have := nit_lt n j hj
        rw [(h n (by omega)).2, (h j (by omega)).2]
/-! somebody can go -/
theorem nit_some {wa : Nat → Int32} {tg : Nat → Int64} : ∀ {n i : Nat}, i < n → ¬ wa i ≤ 0 → ∃ j, nit wa tg n = some j
  | 0, i, h, _ => absurd h (Nat.not_lt_zero _)
  | n + 1, i, h, h0 => by
    rw [nit]
    by_cases e : i = n
    · subst e
      rw [if_neg h0]
      split
      · exact ⟨_, rfl⟩
      · split <;> exact ⟨_, rfl⟩
    · obtain ⟨j, hj⟩ := nit_some (tg := tg) (show i < n by omega) h0
      rw [hj]
      split
      · exact ⟨_, rfl⟩
      · show ∃ j', (if tg j ≤ tg n then some j else some n) = some j'
        split <;> exact ⟨_, rfl⟩
theorem nit_pos {wa : Nat → Int32} {tg : Nat → Int64} : ∀ {n j : Nat}, nit wa tg n = some j → ¬ wa j ≤ 0
  | 0, j, h => by cases h
  | n + 1, j, h => by
    rw [nit] at h
    split at h
    · exact nit_pos h
    · rename_i h0
      split at h
      · cases h; exact h0
      · rename_i j0 hj0
        have := nit_pos hj0
        split at h <;> cases h
        · exact this
        · exact h0
theorem nx_some {dn ow wr fi sz : Nat → Int32} {o x : Int32} : ∀ {n t : Nat}, t < n → ow t = o → cgP dn ow wr fi sz t → ∃ j, nxF dn ow wr fi sz o x n = some j
  | 0, t, h, _, _ => absurd h (Nat.not_lt_zero _)
  | n + 1, t, h, hw, hc => by
    rw [nxF]
    by_cases e : t = n
    · subst e
      rw [if_pos hw, if_pos hc]
      split
      · exact ⟨_, rfl⟩
      · split <;> exact ⟨_, rfl⟩
    · obtain ⟨j, hj⟩ := nx_some (x := x) (show t < n by omega) hw hc
      rw [hj]
      split
      · split
        · show ∃ j', (if ahF fi x j ≤ ahF fi x n then some j else some n) = some j'
          split <;> exact ⟨_, rfl⟩
        · exact ⟨_, rfl⟩
      · exact ⟨_, rfl⟩
/-- of a client's requests that wait the first isn't blocked -/
theorem first_goes {dn ow wr fi sz : Nat → Int32} {o : Int32} {n : Nat} (h : 0 < wcN dn ow o n) : ∃ t, t < n ∧ ow t = o ∧ cgP dn ow wr fi sz t := by
  obtain ⟨t, ⟨h1, h2, h3⟩, hmin⟩ := pk_least (fun t => t < n ∧ dn t = 0 ∧ ow t = o) (wcN_ex h)
  refine ⟨t, h1, h3, h2, fun hb => ?_⟩
  obtain ⟨u, g1, g2, g3⟩ := bcN_ex ((ib_bc t).mp hb)
  exact hmin u g1 ⟨by omega, g2, by rw [g3.1]; exact h3⟩
