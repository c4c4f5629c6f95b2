/-! signs, what comes next, the offers of the scans -/
def sp_perf (sg k : Nat) : Bool := decide (k < 4) && decide (sg / 2 ^ k % 2 = 1)
theorem sp_bit : ∀ sg, sg < 16 → ∀ k, k < 4 → ((nI sg >>> (nI k &&& 31)) &&& nI 1) = nI (sg / 2 ^ k % 2) := by decide +kernel
abbrev ro_w : Type := Nat × (Nat → Nat) × (Nat → Nat) × (Nat → Bool)
def ro_plain (w : ro_w) (i k : Nat) : Bool := decide (i < w.1) && (decide (w.2.1 i = 1) && (!(w.2.2.2 i) && decide (w.2.2.1 i = k)))
def ro_dyed (w : ro_w) (i k : Nat) : Bool := decide (i < w.1) && (decide (w.2.1 i = 1) && (w.2.2.2 i && decide (w.2.2.1 i = k)))
def ro_rest (w : ro_w) (i k : Nat) : Bool := decide (i < w.1) && (decide (w.2.1 i = 2) && decide (w.2.2.1 i = k))
def ro_dot (w : ro_w) (i : Nat) : Bool := decide (i < w.1) && decide (w.2.1 i = 3)
def ro_at (F : Nat → Int32) (A : Nat → Nat → Int32) (w : ro_w) : Prop := w.1 ≤ 24 ∧ F 15 = nI w.1 ∧ ∀ i : Nat, i < w.1 → A 16 i = nI (w.2.1 i) ∧ A 17 i = nI (w.2.2.1 i) ∧ A 18 i = nI (Bool.toNat (w.2.2.2 i)) ∧ w.2.1 i < 4 ∧ w.2.2.1 i < 7
def ro_third (w : ro_w) (k a b : Nat) : Nat := if b = a + 1 then Bool.toNat (ro_dyed w a k) else if b = a + 2 ∧ k < 6 then Bool.toNat (ro_dyed w a (k + 1) && ro_dyed w (a + 1) (k + 1)) else 0
/-- the first place from j on that holds no dot -/
def ro_skip (w : ro_w) : Nat → Nat → Nat
  | 0, j => j
  | f + 1, j => if ro_dot w j = true then ro_skip w f (j + 1) else j
/-- the kind of what comes next behind place i, -1: nothing -/
def ro_next (w : ro_w) (i : Nat) : Int := if ro_skip w (w.1 - (i + 1)) (i + 1) < w.1 then (w.2.2.1 (ro_skip w (w.1 - (i + 1)) (i + 1)) : Int) else -1
/-- the table of ways: what T holds -/
def tb_at (A : Nat → Nat → Int32) (T : Nat → Nat) : Prop := ∀ i : Nat, i < 8750 → A 19 i = nI (T i) ∧ T i ≤ 3000
def tb_w (T : Nat → Nat) (what kind a b : Nat) : Nat := if 6 < kind ∨ b < a ∨ 24 < b then 0 else T ((what * 7 + kind) * 25 * 25 + 25 * a + b)
/-- a row, its sign and ground, the table -/
def cx_at (F : Nat → Int32) (A : Nat → Nat → Int32) (w : ro_w) (sg g : Nat) (T : Nat → Nat) : Prop := ro_at F A w ∧ (F 12 = nI sg ∧ sg < 16) ∧ (F 13 = nI g ∧ g ≤ 4) ∧ tb_at A T ∧ ro_dot w 0 = false
theorem ro_F {F F1 : Nat → Int32} {A : Nat → Nat → Int32} {w : ro_w} (hF : sc_F F F1) (h : ro_at F A w) : ro_at F1 A w := ⟨h.1, (hF 15 (by omega)).trans h.2.1, h.2.2⟩
theorem cx_F {F F1 : Nat → Int32} {A : Nat → Nat → Int32} {w : ro_w} {sg g : Nat} {T : Nat → Nat} (hF : sc_F F F1) (h : cx_at F A w sg g T) : cx_at F1 A w sg g T := ⟨ro_F hF h.1, ⟨(hF 12 (by omega)).trans h.2.1.1, h.2.1.2⟩, ⟨(hF 13 (by omega)).trans h.2.2.1.1, h.2.2.1.2⟩, h.2.2.2⟩
/-- places a + 1 up to b - 1 -/
def sp_rg (a b : Nat) : List Nat := List.range' (a + 1) (b - (a + 1))
def sp_t2 (w : ro_w) (k a b m : Nat) (p : Nat) : sc_O := (15, m, p, false, ro_third w k a m * ro_third w k m p * ro_third w k p b)
def sp_thirds (w : ro_w) (k a b : Nat) : List sc_O := (sp_rg a b).flatMap (fun m => (sp_rg m b).map (sp_t2 w k a b m))
def sp_pair (w : ro_w) (sg : Nat) (T : Nat → Nat) (k a b : Nat) : List sc_O :=
  (if sp_perf sg k = false ∧ k < 6 then
    (if ro_plain w a k = true ∧ ro_dot w (a + 1) = true then [(13, a + 2, 0, false, tb_w T 0 (k + 1) (a + 2) b)] else []) ++
    (if a + 2 < b ∧ ro_plain w (b - 2) k = true ∧ ro_dot w (b - 1) = true then [(14, b - 2, 0, false, tb_w T 0 (k + 1) a (b - 2))] else []) else []) ++ sp_thirds w k a b
def sp_6 (T : Nat → Nat) (k a b : Nat) (dot : Bool) (m p : Nat) : sc_O := (6, m, p, dot, min (tb_w T 0 (k + 1) a m * tb_w T 0 (k + 1) m p) 3000 * tb_w T 0 (k + 1) p b)
def sp_10 (T : Nat → Nat) (k a b : Nat) (dot : Bool) (m : Nat) : sc_O := (10, m, 0, dot, tb_w T 0 (k + 1) a m * tb_w T 1 (k + 1) m b)
def sp_11 (T : Nat → Nat) (k a b : Nat) (dot : Bool) (m : Nat) : sc_O := (11, m, 0, dot, tb_w T 1 (k + 1) a m * tb_w T 0 (k + 1) m b)
def sp_4 (T : Nat → Nat) (k a b : Nat) (m : Nat) : sc_O := (4, m, 0, false, tb_w T 0 (k + 1) a m * tb_w T 0 (k + 1) m b)
def sp_p6 (T : Nat → Nat) (k a b : Nat) (dot : Bool) : List sc_O := (sp_rg a b).flatMap (fun m => if 0 < tb_w T 0 (k + 1) a m then (sp_rg m b).map (sp_6 T k a b dot m) else [])
def sp_p7 (w : ro_w) (T : Nat → Nat) (k a b : Nat) (dot : Bool) : List sc_O := if ro_plain w a k = true then [(7, a + 1, 0, dot, tb_w T 0 (k + 1) (a + 1) b)] else []
def sp_p8 (w : ro_w) (T : Nat → Nat) (k a b : Nat) (dot : Bool) : List sc_O := if a < b - 1 ∧ ro_plain w (b - 1) (k + 1) = true ∧ 0 ≤ ro_next w (b - 1) ∧ ro_next w (b - 1) ≤ k then [(8, b - 1, 0, dot, tb_w T 0 (k + 1) a (b - 1))] else []
def sp_p9 (w : ro_w) (T : Nat → Nat) (k a b : Nat) (dot : Bool) : List sc_O := if a < b - 1 ∧ ro_plain w (b - 1) k = true ∧ ro_next w (b - 1) ≠ k then [(9, b - 1, 0, dot, tb_w T 0 (k + 1) a (b - 1))] else []
def sp_per (w : ro_w) (T : Nat → Nat) (k a b : Nat) (dot : Bool) : List sc_O :=
  sp_p6 T k a b dot ++ (sp_p7 w T k a b dot ++ (sp_p8 w T k a b dot ++ (sp_p9 w T k a b dot ++ ((sp_rg a b).map (sp_10 T k a b dot) ++ (sp_rg a b).map (sp_11 T k a b dot)))))
def sp_u1 (w : ro_w) (k a b : Nat) : List sc_O := if b = a + 1 then [(1, 0, 0, false, Bool.toNat (ro_plain w a k)), (2, 0, 0, false, Bool.toNat (ro_rest w a k))] else []
def sp_u3 (w : ro_w) (k a b : Nat) : List sc_O := if b = a + 2 then [(3, 0, 0, false, Bool.toNat (ro_plain w a k && ro_dot w (a + 1))), (1, 0, 0, true, Bool.toNat (ro_plain w a k && ro_dot w (a + 1))), (2, 0, 0, true, Bool.toNat (ro_rest w a k && ro_dot w (a + 1)))] else []
def sp_unit (w : ro_w) (sg : Nat) (T : Nat → Nat) (k a b : Nat) : List sc_O :=
  sp_u1 w k a b ++ (if sp_perf sg k = false then (if k < 6 then (sp_rg a b).map (sp_4 T k a b) ++ [(5, 0, 0, false, tb_w T 1 (k + 1) a b)] else [])
    else sp_u3 w k a b ++ (sp_per w T k a b false ++ (if ro_dot w (b - 1) = true then sp_per w T k a (b - 1) true else [])))
theorem sp_rg_s {a b : Nat} (h : a + 1 < b) : sp_rg a b = (a + 1) :: sp_rg (a + 1) b := by
  unfold sp_rg
  rw [show b - (a + 1) = (b - (a + 1 + 1)) + 1 from by omega]
  rfl
theorem sp_rg_0 {a b : Nat} (h : b ≤ a + 1) : sp_rg a b = [] := by
  unfold sp_rg
  rw [show b - (a + 1) = 0 from by omega]
  rfl
theorem tb_le {A : Nat → Nat → Int32} {T : Nat → Nat} (ht : tb_at A T) {what kind a b : Nat} (hw : what < 2) (hb : b < 25) : tb_w T what kind a b ≤ 3000 := by
  unfold tb_w
  split
  · omega
  · exact (ht _ (by omega)).2
theorem ro_third_le {w : ro_w} {k a b : Nat} : ro_third w k a b ≤ 1 := by
  unfold ro_third
  split
  · exact Bool.toNat_le _
  · split
    · exact Bool.toNat_le _
    · omega
