/-! Words of the reference's methods. -/
section NMUL
variable {p : Program} {l : Launch} {e : Env} {R : Room} {s : State} {m : MethodId} {args : Array Value} {below : List Frame} {meth : Method} {c : Code} {H : Heap} {locs : List Loc} {cells slots : Nat} {Q : State → Prop}
theorem nmul {cc : ByteArray} {pc : Nat} {ls : Array Slot} {rest : List Value} (hx : p.tables.exec = Jvm.exec) (hb : c.code = cc) {x y : Nat} (hdg : decode cc pc = .ok (.imul, 1)) (k : W p l e R s m args below meth c H locs cells slots Q (F0 m (pc + 1) ls (.int (nI (x * y)) :: rest))) : W p l e R s m args below meth c H locs cells slots Q (F0 m pc ls (.int (nI y) :: .int (nI x) :: rest)) :=
  lv_imul hx hb hdg (by rw [pk_mul]; exact k)
end NMUL
abbrev inwL (x a b : Int64) : Prop := ¬ x < a ∧ ¬ b < x
def flF (p q : Int32) : Int32 := if p = 0 then (if q = 0 then nI 0 else nI 2) else nI 1
theorem flF_10 : flF (nI 1) (nI 0) = nI 1 := by decide
theorem flF_00 : flF (nI 0) (nI 0) = nI 0 := by decide
theorem flF_01 : flF (nI 0) (nI 1) = nI 2 := by decide
theorem toL (x : Int32) : x.toInt64.toInt = x.toInt := by simp
theorem inL {x : Int32} {a b : Nat} (ha : a < 2 ^ 31) (hb : b < 2 ^ 31) {A B : Int64} (hA : A.toInt = a) (hB : B.toInt = b) : inwL x.toInt64 A B ↔ inw x (nI a) (nI b) := by
  unfold inwL inw
  rw [Int64.lt_iff_toInt_lt, Int64.lt_iff_toInt_lt, Int32.lt_iff_toInt_lt, Int32.lt_iff_toInt_lt, toL, hA, hB, nI_toInt ha, nI_toInt hb]
/-- a client that is there, as the reference asks -/
abbrev thB (th : Nat → Int32) (x : Int32) : Prop := inw x (nI 0) (nI 7) ∧ ¬ th x.toNatClampNeg = 0
theorem thB_isT {th : Nat → Int32} {x : Int32} : thB th x ↔ isT th x := by
  constructor
  · rintro ⟨h1, h2⟩
    obtain ⟨j, hj, rfl⟩ := ofW h1 (by decide)
    rw [nI_clamp (by omega)] at h2
    exact ⟨j, by omega, rfl, h2⟩
  · rintro ⟨j, hj, rfl, h⟩
    exact ⟨⟨nI_pos (by omega), nI_nlt (by omega) (by decide)⟩, by rw [nI_clamp (by omega)]; exact h⟩
/-- waiting -/
def wcN (dn ow : Nat → Int32) (x : Int32) : Nat → Nat
  | 0 => 0
  | t + 1 => if dn t = 0 then (if ow t = x then wcN dn ow x t + 1 else wcN dn ow x t) else wcN dn ow x t
/-- begin -/
def beB (ba gr : Nat → Int64) (id : Nat) : Nat → Nat → Int64
  | 0 => ba
  | k + 1 => vp_updL (vp_updL (beB ba gr id k) (8 * id + k) (gr id)) (8 * k + id) (gr k)
/-- isBlocked -/
def ibB (dn ow wr fi sz : Nat → Int32) (t : Nat) : Nat → Bool
  | 0 => false
  | u + 1 => ibB dn ow wr fi sz t u || decide (dn u = 0 ∧ mkO ow wr fi sz u t)
abbrev cgP (dn ow wr fi sz : Nat → Int32) (t : Nat) : Prop := dn t = 0 ∧ ¬ ibB dn ow wr fi sz t t = true
/-- due -/
def duF (dn ow wr fi sz : Nat → Int32) (dl : Nat → Int64) (ck : Int64) : Nat → Option Nat
  | 0 => none
  | i + 1 => if cgP dn ow wr fi sz i then (if dl i ≤ ck then match duF dn ow wr fi sz dl ck i with
    | none => some i
    | some j => if dl j ≤ dl i then some j else some i else duF dn ow wr fi sz dl ck i) else duF dn ow wr fi sz dl ck i
/-- ahead -/
def ahF (fi : Nat → Int32) (h : Int32) (t : Nat) : Int32 := if h ≤ fi t then fi t else fi t + nI 100000
/-- next -/
def nxF (dn ow wr fi sz : Nat → Int32) (o h : Int32) : Nat → Option Nat
  | 0 => none
  | i + 1 => if ow i = o then (if cgP dn ow wr fi sz i then match nxF dn ow wr fi sz o h i with
    | none => some i
    | some j => if ahF fi h j ≤ ahF fi h i then some j else some i else nxF dn ow wr fi sz o h i) else nxF dn ow wr fi sz o h i
/-- serve: the way, the system's tag -/
def waF (fi : Nat → Int32) (h : Int32) (t : Nat) : Int32 := if fi t ≤ h then h - fi t else fi t - h
def smT (th : Nat → Int32) (tg : Nat → Int64) : Nat → Nat → Int64
  | 0 => tg
  | k + 1 => vp_updL (smT th tg k) 8 (if th k = 0 then smT th tg k 8 else if smT th tg k k ≤ smT th tg k 8 then smT th tg k 8 else smT th tg k k)
/-- count: those that are there -/
def hmL (th : Nat → Int32) : Nat → Int64
  | 0 => 0
  | i + 1 => hmL th i + (if th i = 0 then 0 else 1)
abbrev wcI (dn ow : Nat → Int32) (tn : Nat) (i : Nat) : Int32 := nI (wcN dn ow (nI i) tn)
theorem duF_lt {dn ow wr fi sz : Nat → Int32} {dl : Nat → Int64} {ck : Int64} : ∀ (n j : Nat), duF dn ow wr fi sz dl ck n = some j → j < n
  | 0, j, h => by cases h
  | n + 1, j, h => by
    rw [duF] at h
    split at h
    · split at h
      · split at h
        · cases h; omega
        · rename_i j0 hj0
          have := duF_lt n j0 hj0
          split at h <;> cases h <;> omega
      · have := duF_lt n j h; omega
    · have := duF_lt n j h; omega
theorem nxF_lt {dn ow wr fi sz : Nat → Int32} {o x : Int32} : ∀ (n j : Nat), nxF dn ow wr fi sz o x n = some j → j < n
  | 0, j, h => by cases h
  | n + 1, j, h => by
    rw [nxF] at h
    split at h
    · split at h
      · split at h
        · cases h; omega
        · rename_i j0 hj0
          have := nxF_lt n j0 hj0
          split at h <;> cases h <;> omega
      · have := nxF_lt n j h; omega
    · have := nxF_lt n j h; omega
theorem ofL {x : Int32} {a n : Nat} {A B : Int64} (h : inwL x.toInt64 A B) (hA : A.toInt = a) (hB : B.toInt = n) (hn : n < 2 ^ 30) (ha : a ≤ n) : ∃ j : Nat, a ≤ j ∧ j ≤ n ∧ x = nI j :=
  ofWd ((inL (by omega) (by omega) hA hB).mp h) hn ha
/-- in(x, 0, n - 1) -/
theorem inT {x : Int32} {n : Nat} (hn : n ≤ 500) : inwL x.toInt64 0 ((nI n - nI 1).toInt64) ↔ (¬ x < 0 ∧ ¬ nI n ≤ x) := by
  have e1 : (nI n - nI 1).toInt = (n : Int) - 1 := by
    have := pk_sub_toInt (a := n) (b := 1) (by omega) (by decide)
    simpa using this
  have e0 : (0 : Int64).toInt = 0 := by decide
  have e2 : (0 : Int32).toInt = 0 := by decide
  unfold inwL
  rw [Int64.lt_iff_toInt_lt, Int64.lt_iff_toInt_lt, Int32.lt_iff_toInt_lt, Int32.le_iff_toInt_le, toL, toL, e1, e0, e2, nI_toInt (by omega)]
  constructor
  · rintro ⟨h1, h2⟩; exact ⟨h1, by omega⟩
  · rintro ⟨h1, h2⟩; exact ⟨h1, by omega⟩
theorem ib_t1 {bb d : Bool} (h : bb = true) : true = (bb || d) := by rw [h]; rfl
theorem ib_t2 {bb : Bool} {P : Prop} [Decidable P] (h : P) : true = (bb || decide P) := by rw [decide_eq_true h, Bool.or_true]
theorem ib_f {bb : Bool} {P : Prop} [Decidable P] (h1 : ¬ bb = true) (h2 : ¬ P) : false = (bb || decide P) := by
  rw [decide_eq_false h2, Bool.or_false]
  cases bb
  · rfl
  · exact absurd rfl h1
