/-! Words of the class's small methods. -/
def mxL (x y : Int64) : Int64 := if y < x then x else y
def abI (x : Int32) : Int32 := if 0 ≤ x then x else 0 - x
def oI : Option Nat → Int32
  | none => -1
  | some j => nI j
theorem lp_ge {i N : Nat} (hN : N < 2 ^ 31) (hi : i ≤ N) (c : nI N ≤ nI i) : i = N := by
  have := (nI_leI hN (by omega)).mp c
  omega
theorem lp_lt {i N : Nat} (hN : N < 2 ^ 31) (hi : i ≤ N) (c : ¬ nI N ≤ nI i) : i < N := by
  have := mt (nI_leI hN (by omega)).mpr c
  omega
/-- howMany -/
def hmN (th : Nat → Int32) : Nat → Nat
  | 0 => 0
  | i + 1 => if th i = 0 then hmN th i else hmN th i + 1
/-- forgetLead -/
def fgL (ld : Nat → Nat → Int64) (id : Nat) : Nat → Nat → Nat → Int64
  | 0 => ld
  | j + 1 => va_up (va_up (fgL ld id j) id (vp_updL (fgL ld id j id) j 0)) j (vp_updL (va_up (fgL ld id j) id (vp_updL (fgL ld id j id) j 0) j) id 0)
/-- noteService -/
def nsL (ld : Nat → Nat → Int64) (id : Nat) (g : Int64) : Nat → Nat → Nat → Int64
  | 0 => ld
  | j + 1 => va_up (va_up (nsL ld id g j) id (vp_updL (nsL ld id g j id) j (nsL ld id g j id j + g))) j (vp_updL (va_up (nsL ld id g j) id (vp_updL (nsL ld id g j id) j (nsL ld id g j id j + g)) j) id (va_up (nsL ld id g j) id (vp_updL (nsL ld id g j id) j (nsL ld id g j id j + g)) j id - g))
/-- nextInTurn -/
def nit (wa : Nat → Int32) (tg : Nat → Int64) : Nat → Option Nat
  | 0 => none
  | i + 1 => if wa i ≤ 0 then nit wa tg i else match nit wa tg i with
    | none => some i
    | some j => if tg j ≤ tg i then some j else some i
/-- greatestTag -/
def gtF (th : Nat → Int32) (tg : Nat → Int64) (x : Int64) : Nat → Int64
  | 0 => x
  | i + 1 => if th i = 0 then gtF th tg x i else mxL (gtF th tg x i) (tg i)
theorem nI_ne_m1 {j : Nat} (h : j < 2 ^ 31) : ¬ nI j = -1 := by
  intro q
  have a := nI_toInt h
  rw [q] at a
  have b : (-1 : Int32).toInt = -1 := by decide
  omega
theorem nI_nm1 (j : Nat) (h : j < 8) (c : nI j = -1) : False := nI_ne_m1 (by omega) c
def bI (P : Prop) [Decidable P] : Int32 := if P then nI 1 else nI 0
theorem bI_t {P : Prop} [Decidable P] (h : P) : nI 1 = bI P := (if_pos h).symm
theorem bI_f {P : Prop} [Decidable P] (h : ¬ P) : nI 0 = bI P := (if_neg h).symm
theorem bI_01 (P : Prop) [Decidable P] : bI P = 0 ∨ bI P = 1 := by
  unfold bI
  split
  · exact Or.inr rfl
  · exact Or.inl rfl
theorem bI_0 {P : Prop} [Decidable P] (h : bI P = 0) : ¬ P := by
  intro hp
  rw [← bI_t hp] at h
  exact absurd h (by decide)
theorem bI_1 {P : Prop} [Decidable P] (h : ¬ bI P = 0) : P := by
  by_cases hp : P
  · exact hp
  · exact absurd (by rw [← bI_f hp]; rfl) h
theorem ofI {x : Int32} {n : Nat} (h0 : ¬ x < 0) (h : ¬ nI n ≤ x) (hn : n < 2 ^ 31) : ∃ j : Nat, j < n ∧ x = nI j := by
  obtain ⟨j, h1, h2, -⟩ := pk_mu h0 h hn
  exact ⟨j, h1, h2⟩
/-- servedAt -/
def sAt (so : Nat → Int32) (sn : Nat) (x : Int32) : Int32 := if x < 0 then -1 else if nI sn ≤ x then -1 else so x.toNatClampNeg
/-- stateOf -/
def stF (wt bl sh : Nat → Int32) (t : Nat) : Int32 := if wt t = 0 then sh t else if bl t ≤ 0 then nI 1 else nI 0
/-- mustKeepOrder -/
abbrev mkO (ow wr fi sz : Nat → Int32) (a b : Nat) : Prop := ow a = ow b ∧ (¬ wr a = 0 ∨ ¬ wr b = 0) ∧ ¬ (fi b + sz b ≤ fi a) ∧ ¬ (fi a + sz a ≤ fi b)
/-- add -/
def adB (ow wr fi sz wt bl : Nat → Int32) (t : Nat) : Nat → Nat → Int32
  | 0 => bl
  | e + 1 => if wt e = 0 then adB ow wr fi sz wt bl t e else if mkO ow wr fi sz e t then upd (adB ow wr fi sz wt bl t e) t (adB ow wr fi sz wt bl t e t + nI 1) else adB ow wr fi sz wt bl t e
/-- markServed -/
def msB (ow wr fi sz bl : Nat → Int32) (t : Nat) : Nat → Nat → Int32
  | 0 => bl
  | e + 1 => if t < e then (if mkO ow wr fi sz t e then upd (msB ow wr fi sz bl t e) e (msB ow wr fi sz bl t e e - nI 1) else msB ow wr fi sz bl t e) else msB ow wr fi sz bl t e
theorem msB_lo {ow wr fi sz bl : Nat → Int32} {t : Nat} : ∀ e, e ≤ t + 1 → msB ow wr fi sz bl t e = bl
  | 0, _ => rfl
  | e + 1, h => by rw [msB, if_neg (by omega), msB_lo e (by omega)]
/-- mostUrgent -/
def muF (wt bl sh : Nat → Int32) (dl : Nat → Int64) (ck : Int64) : Nat → Option Nat
  | 0 => none
  | i + 1 => if stF wt bl sh i = nI 1 then (if ck < dl i then muF wt bl sh dl ck i else match muF wt bl sh dl ck i with
    | none => some i
    | some j => if dl j ≤ dl i then some j else some i) else muF wt bl sh dl ck i
/-- turnOf -/
def tuF (fi : Nat → Int32) (h : Int32) (t : Nat) : Int32 := if fi t < h then fi t + nI 100000 else fi t
/-- nextAlong -/
def naF (ow fi wt bl sh : Nat → Int32) (o h : Int32) : Nat → Option Nat
  | 0 => none
  | i + 1 => if stF wt bl sh i = nI 1 then (if ow i = o then match naF ow fi wt bl sh o h i with
    | none => some i
    | some j => if tuF fi h j ≤ tuF fi h i then some j else some i else naF ow fi wt bl sh o h i) else naF ow fi wt bl sh o h i
