/-! the frames of the search, as memory -/
def fm_ (X : Nat → Nat → Int32) (w : ro_w) (sg g d : Nat) (φ : fR) : Prop := (∃ t, X 28 d = nI t ∧ t < φ.2.2.2.2.2 ∧ ct_ X w sg g φ.1 t) ∧ (X 29 d = nI φ.2.2.1.length ∧ X 30 d = nI φ.2.2.2.2.1 ∧ X 31 d = nI φ.2.2.2.2.2 ∧ X 32 d = nI φ.2.1.length ∧ X 33 d = nI (sn_ φ.2.1) ∧ X 34 d = nI φ.2.2.2.1) ∧ (∀ i, i < φ.2.1.length → X 26 i = nI (φ.2.1.getD i 0)) ∧ ∀ i, i < φ.2.2.1.length → X 27 i = nI (φ.2.2.1.getD i 0)
def fl3 (φ : fR) (m n p : Nat) : Prop := φ.2.2.2.2.2 ≤ m ∧ φ.2.1.length ≤ n ∧ φ.2.2.1.length ≤ p
def sf_ (X : Nat → Nat → Int32) (w : ro_w) (sg g : Nat) : List fR → Prop
  | [] => True
  | φ :: r => (fm_ X w sg g r.length φ ∧ fw_ w sg g r.length φ ∧ 1 ≤ φ.2.2.2.2.2) ∧ (∀ ψ ∈ r, fl3 ψ φ.2.2.2.2.2 φ.2.1.length φ.2.2.1.length) ∧ sf_ X w sg g r
theorem fm_x {X X' : Nat → Nat → Int32} {w : ro_w} {sg g d m n p : Nat} {φ : fR} (h : fm_ X w sg g d φ) (hl : fl3 φ m n p) (e : ∀ b i, (5 ≤ b ∧ b ≤ 9 ∧ i < m) ∨ (b = 26 ∧ i < n) ∨ (b = 27 ∧ i < p) ∨ (28 ≤ b ∧ b ≤ 34 ∧ i = d) → X' b i = X b i) : fm_ X' w sg g d φ := by
  obtain ⟨⟨t, t1, t2, t3⟩, ⟨a1, a2, a3, a4, a5, a6⟩, b, c⟩ := h
  obtain ⟨l1, l2, l3⟩ := hl
  exact ⟨⟨t, (e _ _ (by omega)).trans t1, t2, ct_x t3 (fun b i h1 h2 h3 => e b i (by omega))⟩, ⟨(e _ _ (by omega)).trans a1, (e _ _ (by omega)).trans a2, (e _ _ (by omega)).trans a3, (e _ _ (by omega)).trans a4, (e _ _ (by omega)).trans a5, (e _ _ (by omega)).trans a6⟩, fun i hi => (e _ _ (by omega)).trans (b i hi), fun i hi => (e _ _ (by omega)).trans (c i hi)⟩
theorem sf_x {X X' : Nat → Nat → Int32} {w : ro_w} {sg g m n p : Nat} : ∀ {stk : List fR}, sf_ X w sg g stk → (∀ ψ ∈ stk, fl3 ψ m n p) → (∀ b i, (5 ≤ b ∧ b ≤ 9 ∧ i < m) ∨ (b = 26 ∧ i < n) ∨ (b = 27 ∧ i < p) ∨ (28 ≤ b ∧ b ≤ 34 ∧ i < stk.length) → X' b i = X b i) → sf_ X' w sg g stk
  | [], _, _, _ => trivial
  | φ :: r, ⟨⟨h1, h2, h3⟩, h4, h5⟩, hl, e => ⟨⟨fm_x h1 (hl φ List.mem_cons_self) (fun b i z => e b i (by rw [List.length_cons]; omega)), h2, h3⟩, h4, sf_x h5 (fun ψ hψ => hl ψ (List.mem_cons_of_mem _ hψ)) (fun b i z => e b i (by rw [List.length_cons]; omega))⟩
/-- the choices stand where they are kept -/
theorem sf_cs {X : Nat → Nat → Int32} {w : ro_w} {sg g : Nat} : ∀ {stk : List fR}, sf_ X w sg g stk → ∀ i, i < stk.length → X 30 i = nI ((cso stk).getD i 0)
  | [], _, i, hi => by rw [List.length_nil] at hi; omega
  | φ :: r, ⟨⟨h1, _, _⟩, _, h5⟩, i, hi => by
    rw [List.length_cons] at hi
    rw [cso_cons]
    by_cases e : i = r.length
    · rw [e, h1.2.1.2.1]
      congr 1
      have := gd_e (l := cso r) (v := φ.2.2.2.2.1)
      rw [cso_len] at this
      exact this.symm
    · rw [gd_l (by rw [cso_len]; omega)]
      exact sf_cs h5 i (by omega)
theorem sf_fw {X : Nat → Nat → Int32} {w : ro_w} {sg g : Nat} : ∀ {stk : List fR}, sf_ X w sg g stk → ∀ i, i < (cso stk).length → (cso stk).getD i 0 ≤ 18
  | [], _, i, hi => by rw [cso_len, List.length_nil] at hi; omega
  | φ :: r, ⟨⟨_, h2, _⟩, _, h5⟩, i, hi => by
    rw [cso_len, List.length_cons] at hi
    rw [cso_cons]
    by_cases e : i = r.length
    · have := gd_e (l := cso r) (v := φ.2.2.2.2.1)
      rw [cso_len] at this
      rw [e, this]
      exact h2.2.2.2.2.1
    · rw [gd_l (by rw [cso_len]; omega)]
      exact sf_fw h5 i (by rw [cso_len]; omega)
def dp_ (stk : List fR) : Int32 := match stk with
  | [] => -1
  | _ :: r => nI r.length
/-- what reading a voice leaves of all as it was -/
def rdx (a : Nat) (st : Bool) (X X' : Nat → Nat → Int32) : Prop := ∀ b i : Nat, (b < 3 ∨ (34 < b ∧ ¬ (b = a ∧ 5 ≤ i ∧ i ≤ 8) ∧ b ≠ a + 2) ∨ (st = false ∧ ((b = a ∧ i = 7) ∨ b = a + 2))) → X' b i = X b i
theorem rdx.rf {a : Nat} {st : Bool} {X : Nat → Nat → Int32} : rdx a st X X := fun _ _ _ => rfl
theorem rdx.tr {a : Nat} {st : Bool} {X X1 X2 : Nat → Nat → Int32} (h1 : rdx a st X X1) (h2 : rdx a st X1 X2) : rdx a st X X2 := fun b i z => (h2 b i z).trans (h1 b i z)
theorem rx_.rd {a m n p : Nat} {st : Bool} {X X' : Nat → Nat → Int32} (h : rx_ m n p X X') (hva : vA a) : rdx a st X X' := fun b i z => h b i (by have := vA_ge hva; omega)
/-- the search's state between turns: F is found -/
def rI_ (X0 X : Nat → Nat → Int32) (Y : Nat → Nat → Int64) (w : ro_w) (sg a dt : Nat) (st : Bool) (E U P H PL RS CO AL LI : Nat → Nat) (stk : List fR) (F : List gL) : Prop := rq_ X w sg a dt E U P H PL RS CO AL LI ∧ X a 8 = nI (Bool.toNat st) ∧ sf_ X w sg (gd_ sg) stk ∧ fo2 X Y (RR F) ∧ F ++ rem_ w sg (gd_ sg) stk = Br w sg (gd_ sg) 0 ∧ (st = true → X a 7 = nI 0 ∧ (F = [] ∨ ∃ y, bo_ F = some y ∧ ps_ X a w y)) ∧ rdx a st X0 X
/-- and at its end -/
def rE_ (X0 X : Nat → Nat → Int32) (Y : Nat → Nat → Int64) (w : ro_w) (sg a dt : Nat) (st : Bool) (E U P H PL RS CO AL LI : Nat → Nat) : Prop := rq_ X w sg a dt E U P H PL RS CO AL LI ∧ X a 8 = nI (Bool.toNat st) ∧ rdx a st X0 X ∧ (st = true → X a 7 = nI 0) ∧ ((fo2 X Y (RR (Br w sg (gd_ sg) 0)) ∧ (st = true → Br w sg (gd_ sg) 0 = [] ∨ ∃ y, bo_ (Br w sg (gd_ sg) 0) = some y ∧ ps_ X a w y)) ∨ (X 20 4 = nI 1001 ∧ 1000 < (RR (Br w sg (gd_ sg) 0)).length))
theorem kx_.rd {a : Nat} {st : Bool} {X X' : Nat → Nat → Int32} (h : kx_ a X X') (h2 : st = false → ∀ b i, (b = 3 ∧ i = 11) ∨ (b = a ∧ i = 7) ∨ b = a + 2 → X' b i = X b i) (hva : vA a) : rdx a st X X' := fun b i z => by
  have := vA_ge hva
  rcases z with z | z | ⟨z1, z2⟩
  · exact h b i (by omega) (by omega) (by omega) (by omega) (by omega)
  · exact h b i (by omega) (by omega) (by omega) (by omega) (by omega)
  · exact h2 z1 b i (Or.inr z2)
theorem kx_.q {a dt sg : Nat} {w : ro_w} {X X' : Nat → Nat → Int32} {E U P H PL RS CO AL LI : Nat → Nat} (h : kx_ a X X') (hva : vA a) (hq : rq_ X w sg a dt E U P H PL RS CO AL LI) : rq_ X' w sg a dt E U P H PL RS CO AL LI := rq_x hq hva (fun b i z => by
  have := vA_ge hva
  rcases z with z | z | ⟨z1, z2⟩
  · exact h b i (by omega) (by omega) (by omega) (by omega) (by omega)
  · exact h b i (by omega) (by omega) (by omega) (by omega) (by omega)
  · exact h b i (by omega) (by omega) (fun y => z2 ⟨0, by omega, by omega⟩) (fun y => z2 ⟨2, y, Or.inl rfl⟩) (by omega))
