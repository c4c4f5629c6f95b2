/-! the state of both, and what the class holds of it -/
abbrev aS : Type := (Nat × (Nat → Nat) × (Nat → Nat) × (Nat → Nat) × (Nat → Nat) × (Nat → Nat)) × ((Nat → Nat) × (Nat → Nat) × (Nat → Int) × (Nat → Bool) × (Nat → Nat) × (Nat → Nat)) × (Nat × (Nat → List fE)) × (Nat × (Nat → Nat))
def aNv (s : aS) : Nat := s.1.1
def aSg (s : aS) : Nat → Nat := s.1.2.1
def aSz (s : aS) : Nat → Nat := s.1.2.2.1
def aUp (s : aS) : Nat → Nat := s.1.2.2.2.1
def aDn (s : aS) : Nat → Nat := s.1.2.2.2.2.1
def aPk (s : aS) : Nat → Nat := s.1.2.2.2.2.2
def aSo (s : aS) : Nat → Nat := s.2.1.1
def aKi (s : aS) : Nat → Nat := s.2.1.2.1
def aPi (s : aS) : Nat → Int := s.2.1.2.2.1
def aCo (s : aS) : Nat → Bool := s.2.1.2.2.2.1
def aUa (s : aS) : Nat → Nat := s.2.1.2.2.2.2.1
def aDa (s : aS) : Nat → Nat := s.2.1.2.2.2.2.2
def aNf (s : aS) : Nat := s.2.2.1.1
def aFl (s : aS) : Nat → List fE := s.2.2.1.2
def aNw (s : aS) : Nat := s.2.2.2.1
def aWk (s : aS) : Nat → Nat := s.2.2.2.2
/-- voice v's row, its readings -/
def aW (s : aS) (v : Nat) : ro_w := (aSz s v, fun i => if i < aSz s v then aSo s (24 * v + i) else 0, fun i => if i < aSz s v then aKi s (24 * v + i) else 0, fun i => if i < aSz s v then aCo s (24 * v + i) else false)
def rD (w : ro_w) (sg : Nat) : List gR := rS w sg (gd_ sg)
def aR (s : aS) (v : Nat) : List gR := rD (aW s v) (aSg s v)
/-- a symbol as it can be -/
def yok (s : aS) (j : Nat) : Prop := (1 ≤ aSo s j ∧ aSo s j ≤ 3) ∧ aKi s j < 7 ∧ (-40 ≤ aPi s j ∧ aPi s j ≤ 40) ∧ (aSo s j ≠ 1 → aCo s j = false) ∧ (0 < aUa s j ∧ aUa s j ≤ 1000 ∧ aUa s j ∣ LL_) ∧ aDa s j ≤ 1000
def vok (s : aS) (v : Nat) : Prop := (aSg s v < 16 ∧ aSz s v ≤ 24) ∧ (aNv s ≤ v → aSz s v = 0 ∧ aPk s v = 0) ∧ (v < aNv s → (0 < aUp s v ∧ aUp s v ≤ 1000 ∧ aUp s v ∣ LL_) ∧ (0 < aDn s v ∧ aDn s v ≤ 1000)) ∧ (∀ i, i < aSz s v → yok s (24 * v + i)) ∧ ro_dot (aW s v) 0 = false ∧ (∀ q, ro_dot (aW s v) q = true → ro_dot (aW s v) (q + 1) = false) ∧ (aPk s v = 0 ∨ aPk s v < (aR s v).length)
def WF (s : aS) : Prop := (aNv s ≤ 6 ∧ aNf s ≤ 6 ∧ aNw s ≤ 6) ∧ (∀ v, v < 6 → vok s v) ∧ (∀ f, f < 6 → (aFl s f).length ≤ 24 ∧ (aNf s ≤ f → aFl s f = [])) ∧ ∀ i, i < 6 → aWk s i ≤ 7
/-- a row's further cells -/
def rx2_ (X : Nat → Nat → Int32) (a : Nat) (w : ro_w) (up dn : Nat) (pi : Nat → Int) (ua da : Nat → Nat) : Prop := (X (a + 3) 7 = nI up ∧ X (a + 3) 8 = nI dn) ∧ ∀ i, i < w.1 → X (a + 6) i = (if w.2.1 i = 1 then Int32.ofInt (pi i) else -1) ∧ X (a + 8) i = nI (ua i) ∧ X (a + 9) i = nI (da i)
/-- what is picked, and whether the row must be read -/
def vst_ (X : Nat → Nat → Int32) (a : Nat) (w : ro_w) (sg pk : Nat) (st : Bool) : Prop := (X a 7 = nI pk ∧ X a 8 = nI (Bool.toNat st)) ∧ (st = true → pk = 0) ∧ (st = false → vk_ X a w sg ∧ ((rD w sg).length ≤ 1000 → ∀ y, (rD w sg)[pk]? = some y → ∀ i, i < w.1 → X (a + 2) i = nI (y.2.getD i 0)))
def vcl (s : aS) (X : Nat → Nat → Int32) (v : Nat) (st : Bool) : Prop := (v < aNv s → vs_ X (61 + 10 * v) (aSg s v)) ∧ vw_ X (61 + 10 * v) (aW s v) ∧ rx2_ X (61 + 10 * v) (aW s v) (if v < aNv s then aUp s v else 1) (if v < aNv s then aDn s v else 1) (fun i => aPi s (24 * v + i)) (fun i => aUa s (24 * v + i)) (fun i => aDa s (24 * v + i)) ∧ vst_ X (61 + 10 * v) (aW s v) (aSg s v) (aPk s v) st ∧ (aNv s ≤ v → st = true)
/-- what else must hold: the writer's draft has nothing picked; a time's size -/
def oth_ (X : Nat → Nat → Int32) : Prop := X 36 7 = nI 0 ∧ ∃ m, m ≤ 24 ∧ X 56 4 = nI m
theorem oth_x {X X' : Nat → Nat → Int32} (h : oth_ X) (e1 : X' 36 7 = X 36 7) (e2 : X' 56 4 = X 56 4) : oth_ X' := ⟨e1.trans h.1, h.2.elim (fun m hm => ⟨m, hm.1, e2.trans hm.2⟩)⟩
/-- the class's cells say the state; ST: which voices are stale -/
def CI (s : aS) (ST : Nat → Bool) (X : Nat → Nat → Int32) (Y : Nat → Nat → Int64) (rl : Option Nat) : Prop := (X 0 6 = nI (aNv s) ∧ X 0 7 = nI (aNf s)) ∧ (∀ v, v < 6 → vcl s X v (ST v)) ∧ (∀ f, f < 6 → flw_ X Y (121 + 8 * f) (aFl s f)) ∧ (X 35 9 = nI (aNw s) ∧ ∀ i, i < 6 → X 50 i = nI (aWk s i)) ∧ oth_ X ∧ ∀ v, v < 6 → rl = some (61 + 10 * v) → ST v = false → (rD (aW s v) (aSg s v)).length ≤ 1000 → kn_ X Y (aW s v) (aSg s v) (61 + 10 * v)
theorem rD_map {w : ro_w} {sg : Nat} : rD w sg = (sS w sg).map (fun x => x.2.1) := by
  unfold rD rS sS srt rL
  rw [List.map_flatMap]
  congr 1
  funext s
  have e : (Br w sg (gd_ sg) 0).flatMap ex_ = (RR (Br w sg (gd_ sg) 0)).map (fun x => x.2.1) := by
    unfold RR
    rw [List.map_flatMap]
    congr 1
    funext x
    unfold ex_
    rw [List.map_replicate]
  rw [e, List.filter_map]
  rfl
theorem rD_len {w : ro_w} {sg : Nat} (hk : rk_ w sg (gd_ sg)) : (rD w sg).length = (RR (Br w sg (gd_ sg) 0)).length := by
  have hg : gd_ sg ≤ 6 := by have := hk.2.1; omega
  unfold rD
  rw [(rS_perm hg hk.1).length_eq]
  unfold rL RR
  rw [List.length_flatMap, List.length_flatMap]
  congr 1
  apply List.map_congr_left
  intro x _
  unfold ex_
  rw [List.length_replicate, List.length_replicate]
theorem rD_sS {w : ro_w} {sg r : Nat} {y : gR} (h : (rD w sg)[r]? = some y) : ∃ x, (sS w sg)[r]? = some x ∧ x.2.1 = y := by
  rw [rD_map, List.getElem?_map] at h
  cases hx : (sS w sg)[r]? with
  | none => rw [hx] at h; cases h
  | some x => rw [hx] at h; exact ⟨x, rfl, Option.some.inj h⟩
theorem gd_perf : ∀ sg, sg < 16 → gd_ sg ≤ 4 ∧ ∀ k, k < gd_ sg → sp_perf sg k = false := by decide +kernel
theorem vok_rk {s : aS} {v : Nat} (h : vok s v) : rk_ (aW s v) (aSg s v) (gd_ (aSg s v)) := ⟨h.1.2, (gd_perf _ h.1.1).1, (gd_perf _ h.1.1).2, h.2.2.2.2.2.1⟩
