section MBR
variable {K : mm_K} {d : Nat} {y : MethodName} {cc : ByteArray} {nL : Nat} {rt : Option FieldType} {pc : Nat} {L : List (Nat × Value)} {st : List Value} {h : mm_H} {kc ks : Nat} {Q : Option Value → mm_H → Prop}
theorem mn_iand {a b : Nat} (hd : decode cc pc = .ok (.iand, 1)) (k : mm_V K d y cc nL rt (pc + 1) L (.int (nI (a &&& b)) :: st) h kc ks Q) : mm_V K d y cc nL rt (pc) L (.int (nI b) :: .int (nI a) :: st) h kc ks Q := mm_iand hd (by rw [bI_and]; exact k)
theorem mn_ior {a b : Nat} (hd : decode cc pc = .ok (.ior, 1)) (k : mm_V K d y cc nL rt (pc + 1) L (.int (nI (a ||| b)) :: st) h kc ks Q) : mm_V K d y cc nL rt (pc) L (.int (nI b) :: .int (nI a) :: st) h kc ks Q := mm_ior hd (by rw [bI_or]; exact k)
theorem mn_ishl {a b : Nat} (hd : decode cc pc = .ok (.ishl, 1)) (hb : b < 32) (k : mm_V K d y cc nL rt (pc + 1) L (.int (nI (a <<< b)) :: st) h kc ks Q) : mm_V K d y cc nL rt (pc) L (.int (nI b) :: .int (nI a) :: st) h kc ks Q := mm_ishl hd (by rw [bI_shl _ _ hb]; exact k)
theorem mn_ishr {a b : Nat} (hd : decode cc pc = .ok (.ishr, 1)) (ha : a < 2 ^ 31) (hb : b < 32) (k : mm_V K d y cc nL rt (pc + 1) L (.int (nI (a >>> b)) :: st) h kc ks Q) : mm_V K d y cc nL rt (pc) L (.int (nI b) :: .int (nI a) :: st) h kc ks Q := mm_ishr hd (by rw [bI_shr _ _ ha hb]; exact k)
end MBR
/-- an array of n masks -/
def tm_ (X : Nat → Nat → Int32) (b n : Nat) (T : Nat → Nat) : Prop := ∀ j : Nat, j < n → X b j = nI (T j) ∧ T j < 2 ^ 27
theorem tm_.at {X : Nat → Nat → Int32} {b n : Nat} {T : Nat → Nat} (h : tm_ X b n T) {j : Nat} (hj : j < n) : X b j = nI (T j) := (h j hj).1
theorem tm_.lt {X : Nat → Nat → Int32} {b n : Nat} {T : Nat → Nat} (h : tm_ X b n T) {j : Nat} (hj : j < n) : T j < 2 ^ 27 := (h j hj).2
theorem lt31 {a : Nat} (h : a < 2 ^ 27) : a < 2 ^ 31 := by omega
theorem and31 {a b : Nat} (h : a < 2 ^ 31) : a &&& b < 2 ^ 31 := Nat.lt_of_le_of_lt Nat.and_le_left h
theorem shr31 {a b : Nat} (h : a < 2 ^ 31) : a >>> b < 2 ^ 31 := Nat.lt_of_le_of_lt (Nat.shiftRight_le a b) h
def TA (a : Nat) : Prop := a = 12 ∨ a = 13 ∨ a = 14
theorem TA_lt {a : Nat} (h : TA a) (n : Nat) (hn : n < 1) : a + n < cm_n := by unfold TA at h; unfold cm_n; omega
theorem TA_0 {a : Nat} (h : TA a) : cm_sh a = (1, 0, 189, 0) := by rcases h with rfl | rfl | rfl <;> rfl
def SA (a : Nat) : Prop := a = 15 ∨ a = 16 ∨ a = 17 ∨ a = 18 ∨ a = 19
theorem SA_lt {a : Nat} (h : SA a) (n : Nat) (hn : n < 1) : a + n < cm_n := by unfold SA at h; unfold cm_n; omega
theorem SA_0 {a : Nat} (h : SA a) : cm_sh a = (1, 0, 7, 0) := by rcases h with rfl | rfl | rfl | rfl | rfl <;> rfl
