/-! Spans: clearing, items, symbols by sorts -/
/-- an array's first n places hold v -/
def fxa (X : Nat → Nat → Int32) (b n : Nat) (v : Int32) : Nat → Nat → Int32 := fun a j => if a = b ∧ j < n then v else X a j
theorem fxa_0 {X : Nat → Nat → Int32} {b : Nat} {v : Int32} : fxa X b 0 v = X := by
  funext a j
  exact if_neg (by omega)
theorem fxa_s {X : Nat → Nat → Int32} {b n : Nat} {v : Int32} : xu (fxa X b n v) b n v = fxa X b (n + 1) v := by
  funext a j
  unfold xu fxa
  by_cases h : a = b ∧ j = n
  · rw [if_pos h, if_pos ⟨h.1, by omega⟩]
  · rw [if_neg h]
    by_cases h2 : a = b ∧ j < n
    · rw [if_pos h2, if_pos ⟨h2.1, by omega⟩]
    · rw [if_neg h2, if_neg (fun z => by
        by_cases q : j = n
        · exact h ⟨z.1, q⟩
        · exact h2 ⟨z.1, by omega⟩)]
theorem fxa_a {X : Nat → Nat → Int32} {a b n j : Nat} {v : Int32} (h : a ≠ b) : fxa X b n v a j = X a j := if_neg (fun z => h z.1)
theorem fxa_i {X : Nat → Nat → Int32} {b n j : Nat} {v : Int32} (h : j < n) : fxa X b n v b j = v := if_pos ⟨rfl, h⟩
theorem xu_xu {α : Type} {X : Nat → Nat → α} {a i : Nat} {v u : α} : xu (xu X a i v) a i u = xu X a i u := by
  funext b j
  unfold xu
  by_cases h : b = a ∧ j = i
  · rw [if_pos h, if_pos h]
  · rw [if_neg h, if_neg h, if_neg h]
def AA (b n : Nat) : Prop := b < cm_n ∧ cm_sh b = (1, 0, n, 0)
theorem AA_lt {b n : Nat} (h : AA b n) (k : Nat) (hk : k < 1) : b + k < cm_n := by have := h.1; rw [show k = 0 from by omega]; exact this
theorem AA_0 {b n : Nat} (h : AA b n) : cm_sh b = (1, 0, n, 0) := h.2
/-- where items can end -/
def ie_ (U P : Nat → Nat) (p : Nat) : Nat → Nat
  | 0 => 0
  | n + 1 => ie_ U P p n ||| (U (n * 27 + p) ||| P (n * 27 + p))
theorem ie_lt {U P : Nat → Nat} {p : Nat} (h : ∀ j, U j < 2 ^ 27 ∧ P j < 2 ^ 27) : ∀ n, ie_ U P p n < 2 ^ 27
  | 0 => Nat.two_pow_pos 27
  | n + 1 => mk_or_lt (ie_lt h n) (mk_or_lt (h _).1 (h _).2)
/-- the places from which items lead to the end; n of them looked at, the last first -/
def tE_ (IE : Nat → Nat) (sz : Nat) : Nat → Nat
  | 0 => 1 <<< sz
  | n + 1 => tE_ IE sz n ||| (if IE (sz - 1 - n) &&& tE_ IE sz n ≠ 0 then 1 <<< (sz - 1 - n) else 0)
theorem shl1_lt {p n : Nat} (h : p < n) : 1 <<< p < 2 ^ n := by rw [Nat.one_shiftLeft]; exact Nat.pow_lt_pow_right (by decide) h
theorem tE_lt {IE : Nat → Nat} {sz : Nat} (hs : sz ≤ 24) : ∀ n, tE_ IE sz n < 2 ^ 25
  | 0 => shl1_lt (by omega)
  | n + 1 => by
    refine mk_or_lt (tE_lt hs n) ?_
    split
    · exact shl1_lt (by omega)
    · exact Nat.two_pow_pos 25
/-- the places that items reach -/
def rh_ (IE : Nat → Nat) : Nat → Nat
  | 0 => 1
  | n + 1 => rh_ IE n ||| (if (rh_ IE n).testBit n = true then IE n else 0)
theorem rh_lt {IE : Nat → Nat} (h : ∀ p, IE p < 2 ^ 27) : ∀ n, rh_ IE n < 2 ^ 27
  | 0 => by show 1 < 2 ^ 27; decide
  | n + 1 => by
    refine mk_or_lt (rh_lt h n) ?_
    split
    · exact h n
    · exact Nat.two_pow_pos 27
