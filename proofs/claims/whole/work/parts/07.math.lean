/-! Words of the class's small methods. -/
def mxL (x y : Int64) : Int64 := if y < x then x else y
def abI (x : Int32) : Int32 := if 0 ≤ x then x else 0 - x
def oI : Option Nat → Int32
  | none => -1
  | some j => nI j
theorem lp_ge {i N : Nat} (hN : N < 2 ^ 31) (hi : i ≤ N) (c : nI N ≤ nI i) : i = N := by
  have := (nI_leI hN (by omega)).mp c
  omega
theorem lp_lt {i N : Nat} (hN : N < 2 ^ 31) (hi : i ≤ N) (c : ¬ nI N ≤ nI i) : i < N := by
  have := mt (nI_leI hN (by omega)).mpr c
  omega
/-- howMany -/
def hmN (th : Nat → Int32) : Nat → Nat
  | 0 => 0
  | i + 1 => if th i = 0 then hmN th i else hmN th i + 1
/-- forgetLead -/
def fgL (ld : Nat → Nat → Int64) (id : Nat) : Nat → Nat → Nat → Int64
  | 0 => ld
  | j + 1 => va_up (va_up (fgL ld id j) id (vp_updL (fgL ld id j id) j 0)) j (vp_updL (va_up (fgL ld id j) id (vp_updL (fgL ld id j id) j 0) j) id 0)
/-- noteService -/
def nsL (ld : Nat → Nat → Int64) (id : Nat) (g : Int64) : Nat → Nat → Nat → Int64
  | 0 => ld
  | j + 1 => va_up (va_up (nsL ld id g j) id (vp_updL (nsL ld id g j id) j (nsL ld id g j id j + g))) j (vp_updL (va_up (nsL ld id g j) id (vp_updL (nsL ld id g j id) j (nsL ld id g j id j + g)) j) id (va_up (nsL ld id g j) id (vp_updL (nsL ld id g j id) j (nsL ld id g j id j + g)) j id - g))
/-- nextInTurn -/
def nit (wa : Nat → Int32) (tg : Nat → Int64) : Nat → Option Nat
  | 0 => none
  | i + 1 => if wa i ≤ 0 then nit wa tg i else match nit wa tg i with
    | none => some i
    | some j => if tg j ≤ tg i then some j else some i
/-- greatestTag -/
def gtF (th : Nat → Int32) (tg : Nat → Int64) (x : Int64) : Nat → Int64
  | 0 => x
  | i + 1 => if th i = 0 then gtF th tg x i else mxL (gtF th tg x i) (tg i)
theorem nI_ne_m1 {j : Nat} (h : j < 2 ^ 31) : ¬ nI j = -1 := by
  intro q
  have a := nI_toInt h
  rw [q] at a
  have b : (-1 : Int32).toInt = -1 := by decide
  omega
theorem nI_nm1 (j : Nat) (h : j < 8) (c : nI j = -1) : False := nI_ne_m1 (by omega) c
def bI (P : Prop) [Decidable P] : Int32 := if P then nI 1 else nI 0
theorem bI_t {P : Prop} [Decidable P] (h : P) : nI 1 = bI P := (if_pos h).symm
theorem bI_f {P : Prop} [Decidable P] (h : ¬ P) : nI 0 = bI P := (if_neg h).symm
theorem bI_01 (P : Prop) [Decidable P] : bI P = 0 ∨ bI P = 1 := by
  unfold bI
  split
  · exact Or.inr rfl
  · exact Or.inl rfl
theorem bI_0 {P : Prop} [Decidable P] (h : bI P = 0) : ¬ P := by
  intro hp
  rw [← bI_t hp] at h
  exact absurd h (by decide)
theorem bI_1 {P : Prop} [Decidable P] (h : ¬ bI P = 0) : P := by
  by_cases hp : P
  · exact hp
  · exact absurd (by rw [← bI_f hp]; rfl) h
theorem ofI {x : Int32} {n : Nat} (h0 : ¬ x < 0) (h : ¬ nI n ≤ x) (hn : n < 2 ^ 31) : ∃ j : Nat, j < n ∧ x = nI j := by
  obtain ⟨j, h1, h2, -⟩ := pk_mu h0 h hn
  exact ⟨j, h1, h2⟩
/-- servedAt -/
def sAt (so : Nat → Int32) (sn : Nat) (x : Int32) : Int32 := if x < 0 then -1 else if nI sn ≤ x then -1 else so x.toNatClampNeg
/-- stateOf -/
def stF (wt bl sh : Nat → Int32) (t : Nat) : Int32 := if wt t = 0 then sh t else if bl t ≤ 0 then nI 1 else nI 0
/-- mustKeepOrder -/
abbrev mkO (ow wr fi sz : Nat → Int32) (a b : Nat) : Prop := ow a = ow b ∧ (¬ wr a = 0 ∨ ¬ wr b = 0) ∧ ¬ (fi b + sz b ≤ fi a) ∧ ¬ (fi a + sz a ≤ fi b)
/-- add -/
def adB (ow wr fi sz wt bl : Nat → Int32) (t : Nat) : Nat → Nat → Int32
  | 0 => bl
  | e + 1 => if wt e = 0 then adB ow wr fi sz wt bl t e else if mkO ow wr fi sz e t then upd (adB ow wr fi sz wt bl t e) t (adB ow wr fi sz wt bl t e t + nI 1) else adB ow wr fi sz wt bl t e
/-- markServed -/
def msB (ow wr fi sz bl : Nat → Int32) (t : Nat) : Nat → Nat → Int32
  | 0 => bl
  | e + 1 => if t < e then (if mkO ow wr fi sz t e then upd (msB ow wr fi sz bl t e) e (msB ow wr fi sz bl t e e - nI 1) else msB ow wr fi sz bl t e) else msB ow wr fi sz bl t e
theorem msB_lo {ow wr fi sz bl : Nat → Int32} {t : Nat} : ∀ e, e ≤ t + 1 → msB ow wr fi sz bl t e = bl
  | 0, _ => rfl
  | e + 1, h => by rw [msB, if_neg (by omega), msB_lo e (by omega)]
/-- mostUrgent -/
def muF (wt bl sh : Nat → Int32) (dl : Nat → Int64) (ck : Int64) : Nat → Option Nat
  | 0 => none
  | i + 1 => if stF wt bl sh i = nI 1 then (if ck < dl i then muF wt bl sh dl ck i else match muF wt bl sh dl ck i with
    | none => some i
    | some j => if dl j ≤ dl i then some j else some i) else muF wt bl sh dl ck i
/-- turnOf -/
def tuF (fi : Nat → Int32) (h : Int32) (t : Nat) : Int32 := if fi t < h then fi t + nI 100000 else fi t
/-- nextAlong -/
def naF (ow fi wt bl sh : Nat → Int32) (o h : Int32) : Nat → Option Nat
  | 0 => none
  | i + 1 => if stF wt bl sh i = nI 1 then (if ow i = o then match naF ow fi wt bl sh o h i with
    | none => some i
    | some j => if tuF fi h j ≤ tuF fi h i then some j else some i else naF ow fi wt bl sh o h i) else naF ow fi wt bl sh o h i
abbrev inw (x a b : Int32) : Prop := ¬ x < a ∧ ¬ b < x
/-- a client that is there -/
abbrev isT (th : Nat → Int32) (x : Int32) : Prop := ∃ j : Nat, j < 8 ∧ x = nI j ∧ ¬ th j = 0
abbrev IAE : String := "java/lang/IllegalArgumentException"
abbrev ISE : String := "java/lang/IllegalStateException"
abbrev IOB : String := "java/lang/IndexOutOfBoundsException"
theorem ofW {x : Int32} {n : Nat} (h : inw x (nI 0) (nI n)) (hn : n < 2 ^ 30) : ∃ j : Nat, j ≤ n ∧ x = nI j := by
  obtain ⟨h1, h2⟩ := h
  obtain ⟨j, hj, rfl⟩ := nI_of (x := x) h1
  refine ⟨j, ?_, rfl⟩
  have := mt (nI_ltI (by omega) (by omega)).mpr h2
  omega
theorem ofWd {x : Int32} {a n : Nat} (h : inw x (nI a) (nI n)) (hn : n < 2 ^ 30) (ha : a ≤ n) : ∃ j : Nat, a ≤ j ∧ j ≤ n ∧ x = nI j := by
  obtain ⟨h1, h2⟩ := h
  have h0 : ¬ x < 0 := by
    intro hx
    apply h1
    have e1 : (nI a).toInt = a := nI_toInt (by omega)
    have e0 : (0 : Int32).toInt = 0 := by decide
    rw [Int32.lt_iff_toInt_lt] at hx ⊢
    omega
  obtain ⟨j, hj, rfl⟩ := nI_of (x := x) h0
  refine ⟨j, ?_, ?_, rfl⟩
  · have := mt (nI_ltI (by omega) (by omega)).mpr h1
    omega
  · have := mt (nI_ltI (by omega) (by omega)).mpr h2
    omega
def oC {α : Type} (o : Option Nat) (d : α) (f : Nat → α) : α := match o with
  | none => d
  | some j => f j
theorem nit_lt {wa : Nat → Int32} {tg : Nat → Int64} : ∀ (n j : Nat), nit wa tg n = some j → j < n
  | 0, j, h => by cases h
  | n + 1, j, h => by
    rw [nit] at h
    split at h
    · have := nit_lt n j h; omega
    · split at h
      · cases h; omega
      · rename_i j0 hj0
        have := nit_lt n j0 hj0
        split at h <;> cases h <;> omega
theorem muF_lt {wt bl sh : Nat → Int32} {dl : Nat → Int64} {ck : Int64} : ∀ (n j : Nat), muF wt bl sh dl ck n = some j → j < n
  | 0, j, h => by cases h
  | n + 1, j, h => by
    rw [muF] at h
    split at h
    · split at h
      · have := muF_lt n j h; omega
      · split at h
        · cases h; omega
        · rename_i j0 hj0
          have := muF_lt n j0 hj0
          split at h <;> cases h <;> omega
    · have := muF_lt n j h; omega
theorem naF_lt {ow fi wt bl sh : Nat → Int32} {o x : Int32} : ∀ (n j : Nat), naF ow fi wt bl sh o x n = some j → j < n
  | 0, j, h => by cases h
  | n + 1, j, h => by
    rw [naF] at h
    split at h
    · split at h
      · split at h
        · cases h; omega
        · rename_i j0 hj0
          have := naF_lt n j0 hj0
          split at h <;> cases h <;> omega
      · have := naF_lt n j h; omega
    · have := naF_lt n j h; omega
/-- countOfDisk -/
def cdF (th : Nat → Int32) (tn sn un : Nat) (hd : Int32) (po : Int64) (sl le x : Int32) : Int64 :=
  if x = nI 0 then (nI (hmN th 8)).toInt64 else if x = nI 1 then (nI (tn - sn)).toInt64 else if x = nI 2 then (nI sn).toInt64 else if x = nI 3 then (nI un).toInt64 else if x = nI 4 then hd.toInt64 else if x = nI 5 then po else if x = nI 6 then sl.toInt64 else if x = nI 7 then le.toInt64 else (-1)
/-- count -/
def cnF (th wa se : Nat → Int32) (tn sn un : Nat) (hd : Int32) (po : Int64) (sl le x : Int32) : Int64 :=
  if inw x (nI 8) (nI 15) then (se (x.toNatClampNeg - 8)).toInt64 else if inw x (nI 16) (nI 23) then (wa (x.toNatClampNeg - 16)).toInt64 else cdF th tn sn un hd po sl le x
theorem tsw_out {x : Int32} (h0 : ¬ x = nI 0) (h1 : ¬ x = nI 1) (h2 : ¬ x = nI 2) (h3 : ¬ x = nI 3) (h4 : ¬ x = nI 4) (h5 : ¬ x = nI 5) (h6 : ¬ x = nI 6) (h7 : ¬ x = nI 7) : x.toInt < 0 ∨ 7 < x.toInt := by
  rcases pk_ix x (n := 8) (by decide) with h | h | ⟨j, hj, h⟩
  · left
    have e0 : (0 : Int32).toInt = 0 := by decide
    rw [Int32.lt_iff_toInt_lt] at h
    omega
  · right
    have e : (nI 8).toInt = 8 := nI_toInt (by decide)
    rw [Int32.le_iff_toInt_le] at h
    omega
  · exfalso
    rcases (show j = 0 ∨ j = 1 ∨ j = 2 ∨ j = 3 ∨ j = 4 ∨ j = 5 ∨ j = 6 ∨ j = 7 by omega) with h9 | h9 | h9 | h9 | h9 | h9 | h9 | h9 <;> subst h9
    · exact h0 h
    · exact h1 h
    · exact h2 h
    · exact h3 h
    · exact h4 h
    · exact h5 h
    · exact h6 h
    · exact h7 h
theorem muF_st {wt bl sh : Nat → Int32} {dl : Nat → Int64} {ck : Int64} : ∀ (n j : Nat), muF wt bl sh dl ck n = some j → stF wt bl sh j = nI 1 ∧ ¬ ck < dl j
  | 0, j, h => by cases h
  | n + 1, j, h => by
    rw [muF] at h
    split at h
    · split at h
      · exact muF_st n j h
      · split at h
        · cases h; exact ⟨by assumption, by assumption⟩
        · rename_i j0 hj0
          have := muF_st n j0 hj0
          split at h <;> cases h
          · exact this
          · exact ⟨by assumption, by assumption⟩
    · exact muF_st n j h
theorem naF_st {ow fi wt bl sh : Nat → Int32} {o x : Int32} : ∀ (n j : Nat), naF ow fi wt bl sh o x n = some j → stF wt bl sh j = nI 1 ∧ ow j = o
  | 0, j, h => by cases h
  | n + 1, j, h => by
    rw [naF] at h
    split at h
    · split at h
      · split at h
        · cases h; exact ⟨by assumption, by assumption⟩
        · rename_i j0 hj0
          have := naF_st n j0 hj0
          split at h <;> cases h
          · exact this
          · exact ⟨by assumption, by assumption⟩
      · exact naF_st n j h
    · exact naF_st n j h
/-- beginSlice, where there is none -/
abbrev bsP (sl le : Int32) (st : Int64) (wa bu : Nat → Int32) (tg : Nat → Int64) (sl1 le1 : Int32) (st1 : Int64) : Prop :=
  (sl = -1 ∧ sl1 = oC (nit wa tg 8) sl (fun j => nI j) ∧ le1 = oC (nit wa tg 8) le bu ∧ st1 = oC (nit wa tg 8) st tg) ∨ (¬ sl = -1 ∧ sl1 = sl ∧ le1 = le ∧ st1 = st)
