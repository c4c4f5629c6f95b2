/-! the tables' masks: what their bits mean -/
def mb (M : Nat) (S : Nat → Prop) : Prop := ∀ m, M.testBit m = true ↔ S m
theorem mb_0 {S : Nat → Prop} (h : ∀ m, ¬ S m) : mb 0 S := fun m => by
  rw [Nat.zero_testBit]
  exact ⟨(fun z => by cases z), fun z => absurd z (h m)⟩
theorem mb_or {M N : Nat} {S T : Nat → Prop} (h1 : mb M S) (h2 : mb N T) : mb (M ||| N) (fun m => S m ∨ T m) := fun m => by
  rw [Nat.testBit_or, Bool.or_eq_true, h1 m, h2 m]
theorem mb_and {M N : Nat} {S T : Nat → Prop} (h1 : mb M S) (h2 : mb N T) : mb (M &&& N) (fun m => S m ∧ T m) := fun m => by
  rw [Nat.testBit_and, Bool.and_eq_true, h1 m, h2 m]
theorem mb_iff {M : Nat} {S T : Nat → Prop} (h : mb M S) (e : ∀ m, S m ↔ T m) : mb M T := fun m => (h m).trans (e m)
theorem mb_one (p : Nat) : mb (1 <<< p) (fun m => m = p) := fun m => by
  rw [Nat.one_shiftLeft, Nat.testBit_two_pow]
  simp
  exact ⟨fun h => h.symm, fun h => h.symm⟩
theorem mb_shl {M : Nat} {S : Nat → Prop} (h : mb M S) (k : Nat) : mb (M <<< k) (fun m => ∃ q, S q ∧ m = q + k) := fun m => by
  rw [Nat.testBit_shiftLeft, Bool.and_eq_true, decide_eq_true_iff, h (m - k)]
  constructor
  · rintro ⟨h1, h2⟩
    exact ⟨m - k, h2, by omega⟩
  · rintro ⟨q, h1, rfl⟩
    exact ⟨by omega, by rw [show q + k - k = q from by omega]; exact h1⟩
theorem mb_shr {M : Nat} {S : Nat → Prop} (h : mb M S) (k : Nat) : mb (M >>> k) (fun m => S (k + m)) := fun m => by
  rw [Nat.testBit_shiftRight]
  exact h (k + m)
theorem mb_if {b : Prop} [Decidable b] {M : Nat} {S : Nat → Prop} (h : mb M S) : mb (if b then M else 0) (fun m => b ∧ S m) := by
  by_cases hb : b
  · rw [if_pos hb]; exact mb_iff h (fun m => ⟨fun z => ⟨hb, z⟩, fun z => z.2⟩)
  · rw [if_neg hb]; exact mb_0 (fun m z => hb z.1)
theorem mb_ne {M : Nat} {S : Nat → Prop} (h : mb M S) : M ≠ 0 ↔ ∃ m, S m := by
  rw [mk_ne0]
  exact ⟨fun ⟨m, z⟩ => ⟨m, (h m).mp z⟩, fun ⟨m, z⟩ => ⟨m, (h m).mpr z⟩⟩
theorem mb_aft {T : Nat → Nat} {a pl n : Nat} {S : Nat → Prop} {R : Nat → Nat → Prop} (h1 : mb pl S) (h2 : ∀ q, q < n → mb (T (a + q)) (R q)) (h3 : ∀ q m, R q m → q < n) : mb (aft_ T a pl n) (fun m => ∃ q, S q ∧ R q m) := fun m => by
  rw [aft_bit]
  constructor
  · rintro ⟨q, a1, a2, a3⟩
    exact ⟨q, (h1 q).mp a2, (h2 q a1 m).mp a3⟩
  · rintro ⟨q, a1, a2⟩
    have := h3 q m a2
    exact ⟨q, this, (h1 q).mpr a1, (h2 q this m).mpr a2⟩
theorem mb_bef {T : Nat → Nat} {a pl n : Nat} {S : Nat → Prop} {R : Nat → Nat → Prop} (h1 : mb pl S) (h2 : ∀ q, q < n → mb (T (a + q)) (R q)) (h3 : ∀ q m, R q m → q < n) : mb (bef_ T a pl n) (fun q => ∃ m, R q m ∧ S m) := fun q => by
  rw [bef_bit]
  constructor
  · rintro ⟨a1, m, a2, a3⟩
    exact ⟨m, (h2 q a1 m).mp a2, (h1 m).mp a3⟩
  · rintro ⟨m, a1, a2⟩
    have := h3 q m a1
    exact ⟨this, m, (h2 q this m).mpr a1, (h1 m).mpr a2⟩
theorem mb_and1 {M p : Nat} {S : Nat → Prop} (h : mb M S) : mb (M &&& 1 <<< p) (fun m => S p ∧ m = p) := mb_iff (mb_and h (mb_one p)) (fun m => ⟨fun z => ⟨z.2 ▸ z.1, z.2⟩, fun z => ⟨z.2 ▸ z.1, z.2⟩⟩)
/-- one note here, k places on -/
theorem mb_here {M p k : Nat} {S : Nat → Prop} (h : mb M S) : mb ((M &&& 1 <<< p) <<< k) (fun m => S p ∧ m = p + k) := mb_iff (mb_shl (mb_and1 h) k) (fun m => ⟨fun ⟨q, ⟨z1, z2⟩, z3⟩ => ⟨z1, by omega⟩, fun ⟨z1, z2⟩ => ⟨p, ⟨z1, rfl⟩, z2⟩⟩)
/-- divided or not -/
theorem mb_div {M D : Nat} {S T : Nat → Prop} (h : mb M S) (hD : mb D T) : mb (M ||| ((M &&& D) <<< 1)) (fun m => S m ∨ ∃ q, S q ∧ T q ∧ m = q + 1) := mb_iff (mb_or h (mb_shl (mb_and h hD) 1)) (fun m => ⟨fun z => z.elim Or.inl (fun ⟨q, z1, z2⟩ => Or.inr ⟨q, z1.1, z1.2, z2⟩), fun z => z.elim Or.inl (fun ⟨q, z1, z2, z3⟩ => Or.inr ⟨q, ⟨z1, z2⟩, z3⟩)⟩)
/-- the symbols' masks -/
def sm_ok (w : ro_w) (D : Nat) (PL RS CO AL LI : Nat → Nat) : Prop := mb D (fun q => ro_dot w q = true) ∧ ∀ k, k < 7 → mb (PL k) (fun q => ro_plain w q k = true) ∧ mb (RS k) (fun q => ro_rest w q k = true) ∧ mb (CO k) (fun q => ro_dyed w q k = true) ∧ mb (AL k) (fun q => al_ w q k = true) ∧ mb (LI k) (fun q => li_ w q k = true)
section SEM
variable {w : ro_w} {sg g : Nat}
theorem mb_do {D : Nat} {PL RS CO AL LI : Nat → Nat} (h : sm_ok w D PL RS CO AL LI) {k : Nat} (hk : k < 7) : mb (PL k &&& D >>> 1) (fun q => do_ w q k = true) := mb_iff (mb_and (h.2 k hk).1 (mb_shr h.1 1)) (fun q => by
  unfold do_
  rw [Bool.and_eq_true, Nat.add_comm 1 q])
/-- forms of which the tables know, kind by kind -/
def un_f (g k : Nat) : List Nat := if k < g then [1, 2, 18] else fs_ 1
def pa_f (g k : Nat) : List Nat := if k < g then [15] else fs_ 2
def al_f (g k f : Nat) : Prop := f ∈ un_f g k ∨ f ∈ pa_f g k ∨ f ∈ fs_ 3
def EN (w : ro_w) (sg g k f p m : Nat) : Prop := al_f g k f ∧ enE w sg g k f p m
def US (w : ro_w) (sg g k p m : Nat) : Prop := ∃ f, f ∈ un_f g k ∧ enE w sg g k f p m
def PS (w : ro_w) (sg g k p m : Nat) : Prop := ∃ f, f ∈ pa_f g k ∧ enE w sg g k f p m
theorem US_g {k p m : Nat} (hk : k ≤ 6) (hg : g ≤ k) : US w sg g k p m ↔ UN w sg g k p m := by
  rw [un_en hk]
  unfold US un_f
  rw [if_neg (by omega)]
theorem PS_g {k p m : Nat} (hk : k ≤ 6) (hg : g ≤ k) : PS w sg g k p m ↔ PA w sg g k p m := by
  rw [pa_en hk]
  unfold PS pa_f
  rw [if_neg (by omega)]
theorem US_lt {k p m : Nat} (h : US w sg g k p m) : p < m ∧ m ≤ w.1 := by obtain ⟨f, -, h⟩ := h; exact en_lt h
theorem PS_lt {k p m : Nat} (h : PS w sg g k p m) : p < m ∧ m ≤ w.1 := by obtain ⟨f, -, h⟩ := h; exact en_lt h
def eix (k f p : Nat) : Nat := (k * 19 + f) * 27 + p
/-- an entry of the tables, right -/
def eok (w : ro_w) (sg g : Nat) (E U P H : Nat → Nat) (k p : Nat) : Prop := (∀ f, f < 19 → mb (E (eix k f p)) (EN w sg g k f p)) ∧ mb (U (k * 27 + p)) (US w sg g k p) ∧ mb (P (k * 27 + p)) (PS w sg g k p) ∧ mb (H (k * 27 + p)) (TH w sg g k p)
def ez (E U P H : Nat → Nat) (k p : Nat) : Prop := (∀ f, f < 19 → E (eix k f p) = 0) ∧ U (k * 27 + p) = 0 ∧ P (k * 27 + p) = 0 ∧ H (k * 27 + p) = 0
def ivC (w : ro_w) (sg g : Nat) (E U P H : Nat → Nat) (c : Nat → Nat → Prop) : Prop := ∀ k p, k ≤ 6 → p < 27 → (c k p → eok w sg g E U P H k p) ∧ (¬ c k p → ez E U P H k p)
theorem eok_out {E U P H : Nat → Nat} {k p : Nat} (hp : w.1 ≤ p) (h : ez E U P H k p) : eok w sg g E U P H k p := by
  have no : ∀ f m, ¬ enE w sg g k f p m := fun f m z => by have := en_lt z; omega
  refine ⟨fun f hf => by rw [h.1 f hf]; exact mb_0 (fun m z => no f m z.2), by rw [h.2.1]; exact mb_0 (fun m z => by have := US_lt z; omega), by rw [h.2.2.1]; exact mb_0 (fun m z => by have := PS_lt z; omega), by rw [h.2.2.2]; exact mb_0 (fun m z => by have := th_lt z; omega)⟩
/-- same everywhere but at one entry -/
def esm (E U P H E' U' P' H' : Nat → Nat) (k p : Nat) : Prop := (∀ k' f' p', k' ≤ 6 → f' < 19 → p' < 27 → ¬ (k' = k ∧ p' = p) → E' (eix k' f' p') = E (eix k' f' p')) ∧ ∀ k' p', k' ≤ 6 → p' < 27 → ¬ (k' = k ∧ p' = p) → U' (k' * 27 + p') = U (k' * 27 + p') ∧ P' (k' * 27 + p') = P (k' * 27 + p') ∧ H' (k' * 27 + p') = H (k' * 27 + p')
theorem ivC_step {E U P H E' U' P' H' : Nat → Nat} {c c' : Nat → Nat → Prop} {k p : Nat} (h : ivC w sg g E U P H c) (hs : esm E U P H E' U' P' H' k p) (hk : eok w sg g E' U' P' H' k p) (hc : ∀ k' p', c' k' p' ↔ c k' p' ∨ (k' = k ∧ p' = p)) : ivC w sg g E' U' P' H' c' := by
  intro k' p' h1 h2
  by_cases hq : k' = k ∧ p' = p
  · obtain ⟨e1, e2⟩ := hq
    subst e1; subst e2
    exact ⟨fun _ => hk, fun z => absurd ((hc _ _).mpr (Or.inr ⟨rfl, rfl⟩)) z⟩
  · obtain ⟨a1, a2⟩ := h k' p' h1 h2
    have b1 := fun f hf => hs.1 k' f p' h1 hf h2 hq
    obtain ⟨b2, b3, b4⟩ := hs.2 k' p' h1 h2 hq
    constructor
    · intro z
      have := a1 (((hc _ _).mp z).resolve_right hq)
      exact ⟨fun f hf => by rw [b1 f hf]; exact this.1 f hf, by rw [b2]; exact this.2.1, by rw [b3]; exact this.2.2.1, by rw [b4]; exact this.2.2.2⟩
    · intro z
      have := a2 (fun y => z ((hc _ _).mpr (Or.inl y)))
      exact ⟨fun f hf => by rw [b1 f hf]; exact this.1 f hf, by rw [b2]; exact this.2.1, by rw [b3]; exact this.2.2.1, by rw [b4]; exact this.2.2.2⟩
end SEM
