/-! numbers that may be -1; the scan's state as the reference holds it -/
theorem sc_ti {wv : Int} (h1 : -1 ≤ wv) (h2 : wv < 1073741824) : (Int32.ofInt wv).toInt = wv := by
  rw [Int32.toInt_ofInt]
  show Int.bmod wv 4294967296 = wv
  rw [Int.bmod_def]
  omega
theorem sc_lt {wv : Int} {c : Nat} (h1 : -1 ≤ wv) (h2 : wv < 1073741824) (hc : c < 2 ^ 31) : Int32.ofInt wv < nI c ↔ wv < c := by
  rw [Int32.lt_iff_toInt_lt, sc_ti h1 h2, nI_toInt hc]
theorem sc_llt {wv : Int} {c : Nat} (h1 : -1 ≤ wv) (h2 : wv < 1073741824) (hc : c < 2 ^ 63) : (Int32.ofInt wv).toInt64 < lN c ↔ wv < c := by
  rw [Int64.lt_iff_toInt_lt, Int32.toInt_toInt64, sc_ti h1 h2, pk_lT hc]
theorem sc_sub {wv : Int} {c : Nat} (h1 : (c : Int) ≤ wv) (h2 : wv < 1073741824) : Int32.ofInt wv - nI c = nI (wv.toNat - c) := by
  have e : Int32.ofInt wv = nI wv.toNat := by
    apply Int32.toInt_inj.mp
    rw [sc_ti (by omega) h2, nI_toInt (by omega)]
    omega
  rw [e, pk_sub (by omega)]
/-- counted, wanted, isTaken, takenForm, takenCut, takenCut2, takenDot, takenRank -/
abbrev sc_S : Type := Nat × Int × Bool × Nat × Nat × Nat × Bool × Nat
/-- form, cut, cut2, dot, how many -/
abbrev sc_O : Type := Nat × Nat × Nat × Bool × Nat
def sc_at (F : Nat → Int32) (S : sc_S) : Prop := F 21 = nI S.1 ∧ F 22 = Int32.ofInt S.2.1 ∧ F 23 = nI (Bool.toNat S.2.2.1) ∧ F 24 = nI S.2.2.2.1 ∧ F 25 = nI S.2.2.2.2.1 ∧ F 26 = nI S.2.2.2.2.2.1 ∧ F 27 = nI (Bool.toNat S.2.2.2.2.2.2.1) ∧ F 28 = nI S.2.2.2.2.2.2.2 ∧ S.1 ≤ 3000 ∧ -1 ≤ S.2.1 ∧ S.2.1 < 1073741824
def sc_F (F F' : Nat → Int32) : Prop := ∀ j : Nat, (j < 21 ∨ 28 < j) → F' j = F j
theorem sc_F.rf {F : Nat → Int32} : sc_F F F := fun _ _ => rfl
theorem sc_F.tr {F F1 F2 : Nat → Int32} (a : sc_F F F1) (b : sc_F F1 F2) : sc_F F F2 := fun j hj => (b j hj).trans (a j hj)
theorem sc_F.up {F F1 : Nat → Int32} (a : sc_F F F1) {k : Nat} {x : Int32} (h : 21 ≤ k ∧ k ≤ 28) : sc_F F (upd F1 k x) := fun j hj => (pk_un (by omega)).trans (a j hj)
def sc_take (S : sc_S) (e : sc_O) : sc_S := if S.2.2.1 = false ∧ (S.1 : Int) ≤ S.2.1 ∧ S.2.1 < (S.1 + e.2.2.2.2 : Nat) then (S.1, S.2.1, true, e.1, e.2.1, e.2.2.1, e.2.2.2.1, S.2.1.toNat - S.1) else S
def sc_step (S : sc_S) (e : sc_O) : sc_S := if e.2.2.2.2 = 0 then S else (min (S.1 + e.2.2.2.2) 3000, (sc_take S e).2)
theorem sc_step0 {S : sc_S} {a b c : Nat} {z : Bool} : sc_step S (a, b, c, z, 0) = S := if_pos rfl
