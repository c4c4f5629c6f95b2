/-! the reference's voices and symbols, as functions -/
/-- voices: how many; sign, size, up, down, picked -/
def vo_ (F : Nat → Int32) (A : Nat → Nat → Int32) (nv : Nat) (sg sz up dn pk : Nat → Nat) : Prop := (F 0 = nI nv ∧ nv ≤ 6) ∧ ∀ v : Nat, v < 6 → (A 1 v = nI (sg v) ∧ sg v < 16) ∧ (A 2 v = nI (sz v) ∧ sz v ≤ 24) ∧ (A 3 v = nI (up v) ∧ up v ≤ 1000) ∧ (A 4 v = nI (dn v) ∧ dn v ≤ 1000) ∧ A 5 v = nI (pk v) ∧ pk v < 1001
/-- symbols, 24 a voice: sort, kind, pitch, colour, the proportion then -/
def sy_ (A : Nat → Nat → Int32) (so ki : Nat → Nat) (pi : Nat → Int) (co : Nat → Bool) (ua da : Nat → Nat) : Prop := ∀ j : Nat, j < 144 → (A 6 j = nI (so j) ∧ so j < 4) ∧ (A 7 j = nI (ki j) ∧ ki j < 7) ∧ (A 8 j = Int32.ofInt (pi j) ∧ -40 ≤ pi j ∧ pi j ≤ 40) ∧ A 9 j = nI (Bool.toNat (co j)) ∧ (A 10 j = nI (ua j) ∧ ua j ≤ 1000) ∧ (A 11 j = nI (da j) ∧ da j ≤ 1000)
/-- voice v's row -/
def rw_ (sz so ki : Nat → Nat) (co : Nat → Bool) (v : Nat) : ro_w := (sz v, fun i => so (24 * v + i), fun i => ki (24 * v + i), fun i => co (24 * v + i))
/-- what the reading methods need of the rest -/
def sk_ (F : Nat → Int32) (A : Nat → Nat → Int32) : Prop := ∃ (w : ro_w) (sg g : Nat) (T I : Nat → Nat) (S : sc_S), cx_at F A w sg g T ∧ sc_at F S ∧ tb_dg T ∧ iw_at A I ∧ F 34 = nI 0 ∧ vl_ A
/-- what is found for a row stands in the arrays -/
def rc_ (F : Nat → Int32) (A : Nat → Nat → Int32) (w : ro_w) (sg g N : Nat) : Prop := ∃ T I : Nat → Nat, tc_ w sg g T I ∧ cx_at F A w sg g T ∧ iw_at A I ∧ N = I 0 ∧ F 40 = nI N ∧ (N ≤ 1000 → rs_ A (rf_ w sg g T I) N ∧ sa_ A (so_ (fun q => (rf_ w sg g T I q).1) N) N)
def rd_F (F F' : Nat → Int32) : Prop := ∀ j : Nat, (j < 12 ∨ j = 14 ∨ (15 < j ∧ j < 21) ∨ (28 < j ∧ j < 34) ∨ (34 < j ∧ j < 40) ∨ 42 < j) → F' j = F j
def rd_A (A A' : Nat → Nat → Int32) : Prop := ∀ j : Nat, (j < 16 ∨ 39 < j) → A' j = A j
theorem gd_le : ∀ sg, sg < 16 → gd_ sg ≤ 4 := by decide +kernel
