/-! one call, both sides -/
section JJK
def PCi (t : aS) (Ph : Int32 → Prop) (h : mm_H) : Option Value → mm_H → Prop := fun rv h' => (∃ x, Ph x ∧ rv = some (.int x)) ∧ ∃ (X' : Nat → Nat → Int32) (Y' : Nat → Nat → Int64) (rl' : Option Nat) (ST' : Nat → Bool), cm_at 0 X' Y' rl' h' ∧ cm_fr 0 h h' ∧ CI t ST' X' Y' rl'
def PCl (t : aS) (x : Int64) (h : mm_H) : Option Value → mm_H → Prop := fun rv h' => rv = some (.long x) ∧ ∃ (X' : Nat → Nat → Int32) (Y' : Nat → Nat → Int64) (rl' : Option Nat) (ST' : Nat → Bool), cm_at 0 X' Y' rl' h' ∧ cm_fr 0 h h' ∧ CI t ST' X' Y' rl'
def PRv (t : aS) (r : Value) (h : mm_H) : Option Value → mm_H → Prop := fun rv h' => rv = some r ∧ ∃ (F' : Nat → Int32) (G' : Nat → Int64) (A' : Nat → Nat → Int32) (B' : Nat → Nat → Int64), rm_at 169 F' G' A' B' h' ∧ rm_fr 169 h h' ∧ RI t F' A' B'
/-- the class's side; the reference's side -/
def jC (s : aS) (y : MethodName) (c : ByteArray) (n : Nat) (rt : Option FieldType) (As : List Value) (P : mm_H → Option Value → mm_H → Prop) : Prop := ∀ (l : Launch) (D : va_G) (aa : Nat → ClassId) (b0 : Nat) (h : mm_H) (X : Nat → Nat → Int32) (Y : Nat → Nat → Int64) (rl : Option Nat) (ST : Nat → Bool), cm_at 0 X Y rl h → CI s ST X Y rl → mm_V (zz_K l D aa b0) 12 y c n rt 0 (lv_args 0 (.ref 0 :: As)) [] h 0 0 (P h)
def jR (s : aS) (y : MethodName) (c : ByteArray) (n : Nat) (rt : Option FieldType) (As : List Value) (P : mm_H → Option Value → mm_H → Prop) : Prop := ∀ (l : Launch) (D : va_G) (aa : Nat → ClassId) (b0 : Nat) (h : mm_H) (F : Nat → Int32) (G : Nat → Int64) (A : Nat → Nat → Int32) (B : Nat → Nat → Int64), rm_at 169 F G A B h → RI s F A B → mm_V (zz_K l D aa b0) 12 y c n rt 0 (lv_args 0 (.ref 169 :: As)) [] h 0 0 (P h)
def JI (s : aS) (y1 : MethodName) (c1 : ByteArray) (n1 : Nat) (y2 : MethodName) (c2 : ByteArray) (n2 : Nat) (As : List Value) : Prop := ∃ (t : aS) (Ph : Int32 → Prop), WF t ∧ jC s y1 c1 n1 (some .int) As (PCi t Ph) ∧ ∀ x, Ph x → jR s y2 c2 n2 (some .int) As (PRv t (.int x))
def JL (s : aS) (y1 : MethodName) (c1 : ByteArray) (n1 : Nat) (y2 : MethodName) (c2 : ByteArray) (n2 : Nat) (As : List Value) : Prop := ∃ (t : aS) (x : Int64), WF t ∧ jC s y1 c1 n1 (some .long) As (PCl t x) ∧ jR s y2 c2 n2 (some .long) As (PRv t (.long x))
variable {s : aS} {y1 y2 : MethodName} {c1 c2 : ByteArray} {n1 n2 : Nat} {As : List Value}
theorem JI.mk1 (t : aS) (x : Int32) (hW : WF t) (hc : jC s y1 c1 n1 (some .int) As (PCi t (fun z => z = x))) (hr : jR s y2 c2 n2 (some .int) As (PRv t (.int x))) : JI s y1 c1 n1 y2 c2 n2 As := ⟨t, _, hW, hc, fun z hz => by subst hz; exact hr⟩
section JJM
variable {l : Launch} {D : va_G} {aa : Nat → ClassId} {b0 d : Nat} {y : MethodName} {c : ByteArray} {n : Nat} {L : List (Nat × Value)} {h : mm_H} {t : aS} {X : Nat → Nat → Int32} {Y : Nat → Nat → Int64} {rl : Option Nat} {ST : Nat → Bool} {F : Nat → Int32} {G : Nat → Int64} {A : Nat → Nat → Int32} {B : Nat → Nat → Int64} {rt : Option FieldType}
theorem pc_a {x : Int32} (ha : cm_at 0 X Y rl h) (hI : CI t ST X Y rl) (hd : d ≤ 12) (hV : mm_V (zz_K l D aa b0) d y c n rt 0 L [] h 0 0 (fun rv h' => h' = h ∧ rv = some (.int x))) : mm_V (zz_K l D aa b0) 12 y c n rt 0 L [] h 0 0 (PCi t (fun z => z = x) h) := mm_mono hd (mm_weak hV (fun r h' q => by
  obtain ⟨rfl, rfl⟩ := q
  exact ⟨⟨x, rfl, rfl⟩, X, Y, rl, ST, ha, cm_fr.rf, hI⟩))
theorem pc_b {x : Int32} (hd : d ≤ 12) (hV : mm_V (zz_K l D aa b0) d y c n rt 0 L [] h 0 0 (fun rv h' => rv = some (.int x) ∧ ∃ (X' : Nat → Nat → Int32) (Y' : Nat → Nat → Int64) (rl' : Option Nat) (ST' : Nat → Bool), cm_at 0 X' Y' rl' h' ∧ cm_fr 0 h h' ∧ CI t ST' X' Y' rl')) : mm_V (zz_K l D aa b0) 12 y c n rt 0 L [] h 0 0 (PCi t (fun z => z = x) h) := mm_mono hd (mm_weak hV (fun r h' q => ⟨⟨x, rfl, q.1⟩, q.2⟩))
theorem pc_c {x : Int32} {ST2 : Nat → Bool} (hd : d ≤ 12) (hV : mm_V (zz_K l D aa b0) d y c n rt 0 L [] h 0 0 (fun rv h' => rv = some (.int x) ∧ ∃ X' : Nat → Nat → Int32, cm_at 0 X' Y rl h' ∧ cm_fr 0 h h' ∧ CI t ST2 X' Y rl)) : mm_V (zz_K l D aa b0) 12 y c n rt 0 L [] h 0 0 (PCi t (fun z => z = x) h) := mm_mono hd (mm_weak hV (fun r h' q => by
  obtain ⟨q1, X', q2, q3, q4⟩ := q
  exact ⟨⟨x, rfl, q1⟩, X', Y, rl, ST2, q2, q3, q4⟩))
theorem pc_d {x : Int32} (hd : d ≤ 12) (hV : mm_V (zz_K l D aa b0) d y c n rt 0 L [] h 0 0 (fun rv h' => rv = some (.int x) ∧ ∃ (ST' : Nat → Bool) (X' : Nat → Nat → Int32), cm_at 0 X' Y rl h' ∧ cm_fr 0 h h' ∧ CI t ST' X' Y rl)) : mm_V (zz_K l D aa b0) 12 y c n rt 0 L [] h 0 0 (PCi t (fun z => z = x) h) := mm_mono hd (mm_weak hV (fun r h' q => by
  obtain ⟨q1, ST', X', q2, q3, q4⟩ := q
  exact ⟨⟨x, rfl, q1⟩, X', Y, rl, ST', q2, q3, q4⟩))
theorem pl_a {x : Int64} (ha : cm_at 0 X Y rl h) (hI : CI t ST X Y rl) (hd : d ≤ 12) (hV : mm_V (zz_K l D aa b0) d y c n rt 0 L [] h 0 0 (fun rv h' => h' = h ∧ rv = some (.long x))) : mm_V (zz_K l D aa b0) 12 y c n rt 0 L [] h 0 0 (PCl t x h) := mm_mono hd (mm_weak hV (fun r h' q => by
  obtain ⟨rfl, rfl⟩ := q
  exact ⟨rfl, X, Y, rl, ST, ha, cm_fr.rf, hI⟩))
theorem pl_b {x : Int64} (hd : d ≤ 12) (hV : mm_V (zz_K l D aa b0) d y c n rt 0 L [] h 0 0 (fun rv h' => rv = some (.long x) ∧ ∃ (X' : Nat → Nat → Int32) (Y' : Nat → Nat → Int64) (rl' : Option Nat) (ST' : Nat → Bool), cm_at 0 X' Y' rl' h' ∧ cm_fr 0 h h' ∧ CI t ST' X' Y' rl')) : mm_V (zz_K l D aa b0) 12 y c n rt 0 L [] h 0 0 (PCl t x h) := mm_mono hd (mm_weak hV (fun r h' q => q))
theorem pr_a {v : Value} (ha : rm_at 169 F G A B h) (hI : RI t F A B) (hd : d ≤ 12) (hV : mm_V (zz_K l D aa b0) d y c n rt 0 L [] h 0 0 (fun r h' => h' = h ∧ r = some v)) : mm_V (zz_K l D aa b0) 12 y c n rt 0 L [] h 0 0 (PRv t v h) := mm_mono hd (mm_weak hV (fun r h' q => by
  obtain ⟨rfl, rfl⟩ := q
  exact ⟨rfl, F, G, A, B, ha, rm_fr.rf, hI⟩))
theorem pr_b {v : Value} (hd : d ≤ 12) (hV : mm_V (zz_K l D aa b0) d y c n rt 0 L [] h 0 0 (fun r h' => r = some v ∧ ∃ (F' : Nat → Int32) (A' : Nat → Nat → Int32), rm_at 169 F' G A' B h' ∧ rm_fr 169 h h' ∧ RI t F' A' B)) : mm_V (zz_K l D aa b0) 12 y c n rt 0 L [] h 0 0 (PRv t v h) := mm_mono hd (mm_weak hV (fun r h' q => by
  obtain ⟨q1, F', A', q2, q3, q4⟩ := q
  exact ⟨q1, F', G, A', B, q2, q3, q4⟩))
theorem pr_c {v : Value} (hd : d ≤ 12) (hV : mm_V (zz_K l D aa b0) d y c n rt 0 L [] h 0 0 (fun r h' => r = some v ∧ ∃ (F' : Nat → Int32) (G' : Nat → Int64) (A' : Nat → Nat → Int32), rm_at 169 F' G' A' B h' ∧ rm_fr 169 h h' ∧ RI t F' A' B)) : mm_V (zz_K l D aa b0) 12 y c n rt 0 L [] h 0 0 (PRv t v h) := mm_mono hd (mm_weak hV (fun r h' q => by
  obtain ⟨q1, F', G', A', q2, q3, q4⟩ := q
  exact ⟨q1, F', G', A', B, q2, q3, q4⟩))
theorem pr_d {v : Value} (hd : d ≤ 12) (hV : mm_V (zz_K l D aa b0) d y c n rt 0 L [] h 0 0 (fun r h' => r = some v ∧ ∃ (F' : Nat → Int32) (G' : Nat → Int64) (A' : Nat → Nat → Int32) (B' : Nat → Nat → Int64), rm_at 169 F' G' A' B' h' ∧ rm_fr 169 h h' ∧ RI t F' A' B')) : mm_V (zz_K l D aa b0) 12 y c n rt 0 L [] h 0 0 (PRv t v h) := mm_mono hd (mm_weak hV (fun r h' q => q))
end JJM
end JJK
/-- ints, read as numbers -/
theorem ii_le {a b : Int32} : a ≤ b ↔ a.toInt ≤ b.toInt := Int32.le_iff_toInt_le
theorem ii_lt {a b : Int32} : a < b ↔ a.toInt < b.toInt := Int32.lt_iff_toInt_lt
theorem ii_n (x : Int32) : x < 0 ∨ ∃ k, k < 2 ^ 31 ∧ x = nI k := by
  by_cases h : x < 0
  · exact Or.inl h
  · right
    have h0 : 0 ≤ x.toInt := by
      have e : (0 : Int32).toInt = 0 := by decide
      have : ¬ x.toInt < (0 : Int32).toInt := fun z => h (ii_lt.mpr z)
      omega
    have h1 := Int32.toInt_lt x
    refine ⟨x.toInt.toNat, by omega, ?_⟩
    apply Int32.toInt_inj.mp
    rw [nI_toInt (by omega)]
    omega
theorem ii_r {x : Int32} {lo hi : Nat} (h : (lo : Int) ≤ x.toInt ∧ x.toInt ≤ (hi : Int)) : ∃ k : Nat, x = nI k ∧ lo ≤ k ∧ k ≤ hi := by
  have h1 := Int32.toInt_lt x
  refine ⟨x.toInt.toNat, ?_, by omega, by omega⟩
  apply Int32.toInt_inj.mp
  rw [nI_toInt (by omega)]
  omega
theorem ii_7 {x : Int32} (h : x < 0 ∨ nI 7 ≤ x) : ¬ (0 ≤ x ∧ x < nI 7) ∧ ¬ ((0 : Int) ≤ x.toInt ∧ x.toInt < 7) := by
  have h1 := i32_out (n := 7) (by decide) h
  refine ⟨fun z => ?_, fun z => by omega⟩
  have e0 : (0 : Int32).toInt = 0 := by decide
  have e7 : (nI 7).toInt = 7 := by decide
  have z1 := ii_le.mp z.1
  have z2 := ii_lt.mp z.2
  omega
theorem ii_40 {p : Int32} : ((-40) ≤ p ∧ p ≤ nI 40) ↔ ((-40 : Int) ≤ p.toInt ∧ p.toInt ≤ 40) := by
  have e0 : (-40 : Int32).toInt = -40 := by decide
  have e7 : (nI 40).toInt = 40 := by decide
  rw [ii_le, ii_le, e0, e7]
theorem ii_19 {p : Int32} : (nI 1 ≤ p ∧ p ≤ nI 9) ↔ ((1 : Int) ≤ p.toInt ∧ p.toInt ≤ 9) := by
  have e0 : (nI 1).toInt = 1 := by decide
  have e7 : (nI 9).toInt = 9 := by decide
  rw [ii_le, ii_le, e0, e7]
theorem ii_0n {p : Int32} {n : Nat} (hn : n < 2 ^ 31) : (0 ≤ p ∧ p ≤ nI n) ↔ ((0 : Int) ≤ p.toInt ∧ p.toInt ≤ (n : Int)) := by
  have e0 : (0 : Int32).toInt = 0 := by decide
  rw [ii_le, ii_le, e0, nI_toInt hn]
theorem ii_28 {p : Int32} : (nI 2 ≤ p ∧ p ≤ nI 8) ↔ ((2 : Int) ≤ p.toInt ∧ p.toInt ≤ 8) := by
  have e0 : (nI 2).toInt = 2 := by decide
  have e7 : (nI 8).toInt = 8 := by decide
  rw [ii_le, ii_le, e0, e7]
theorem rf_c (L : Nat) (r : Int32) : rfA L r ≠ 0 ∨ (L ≤ 1000 ∧ ∃ k, k < L ∧ r = nI k) := by
  by_cases h : 1000 < L
  · left
    unfold rfA
    rw [if_pos h]
    decide
  · rcases i32_or (v := r) L (by omega) with hk | hk
    · exact Or.inr ⟨by omega, hk⟩
    · left
      unfold rfA
      rw [if_neg h, if_pos hk]
      decide
