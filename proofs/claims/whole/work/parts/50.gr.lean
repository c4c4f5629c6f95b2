/-! the readings as lists, in the reference's order: forms told, values by place -/
abbrev gR : Type := List Nat × List Nat
def gc (x y : gR) : gR := (x.1 ++ y.1, x.2 ++ y.2)
def gx (A B : List gR) : List gR := A.flatMap (fun x => B.map (gc x))
theorem gc_assoc (x y z : gR) : gc (gc x y) z = gc x (gc y z) := by unfold gc; simp only [List.append_assoc]
theorem gc_nil (x : gR) : gc x ([], []) = x := by unfold gc; simp only [List.append_nil]
theorem nil_gc (x : gR) : gc ([], []) x = x := by unfold gc; simp only [List.nil_append]
theorem gx_len (A B : List gR) : (gx A B).length = A.length * B.length := by
  induction A with
  | nil => simp [gx]
  | cons x A ih =>
    have e : gx (x :: A) B = B.map (gc x) ++ gx A B := rfl
    rw [e, List.length_append, ih, List.length_map, List.length_cons, Nat.succ_mul, Nat.add_comm]
theorem gx_get {A B : List gR} {x y : gR} : ∀ {i j : Nat}, A[i]? = some x → B[j]? = some y → (gx A B)[i * B.length + j]? = some (gc x y) := by
  induction A with
  | nil => intro i j h; simp at h
  | cons z A ih =>
    intro i j h1 h2
    have e : gx (z :: A) B = B.map (gc z) ++ gx A B := rfl
    have hj : j < B.length := (List.getElem?_eq_some_iff.mp h2).1
    rw [e]
    cases i with
    | zero =>
      rw [Nat.zero_mul, Nat.zero_add, List.getElem?_append_left (by rw [List.length_map]; exact hj), List.getElem?_map, h2]
      have : z = x := by simpa using h1
      rw [this]; rfl
    | succ i =>
      rw [List.getElem?_append_right (by rw [List.length_map, Nat.succ_mul]; omega), List.length_map, show (i + 1) * B.length + j - B.length = i * B.length + j from by rw [Nat.succ_mul]; omega]
      exact ih (by simpa using h1) h2
theorem gx_dm {A B : List gR} {q : Nat} (h : q < A.length * B.length) : ∃ x y, A[q / B.length]? = some x ∧ B[q % B.length]? = some y ∧ (gx A B)[q]? = some (gc x y) := by
  obtain ⟨h1, h2⟩ := dv_lt h
  refine ⟨A[q / B.length], B[q % B.length], List.getElem?_eq_getElem h1, List.getElem?_eq_getElem h2, ?_⟩
  have := gx_get (List.getElem?_eq_getElem h1) (List.getElem?_eq_getElem h2)
  rw [show q / B.length * B.length + q % B.length = q from by rw [Nat.mul_comm]; exact Nat.div_add_mod q B.length] at this
  exact this
/-- as far as 3000 -/
def cq (a b : Nat) : Prop := min a 3000 = min b 3000
theorem cq_rf (a : Nat) : cq a a := rfl
theorem cq_add {a b c d : Nat} (h1 : cq a b) (h2 : cq c d) : cq (a + c) (b + d) := by unfold cq at *; omega
theorem cq_cap {a b : Nat} (h : cq a b) : cq (min a 3000) b := by unfold cq at *; omega
theorem cq_mul {a b c d : Nat} (h1 : cq a b) (h2 : cq c d) : cq (a * c) (b * d) := by
  unfold cq at *
  by_cases ha : a < 3000
  · have e : a = b := by omega
    subst e
    by_cases hc : c < 3000
    · have e : c = d := by omega
      subst e; rfl
    · rcases Nat.eq_zero_or_pos a with z | z
      · subst z; simp
      · have q1 : 1 * 3000 ≤ a * c := Nat.mul_le_mul z (by omega)
        have q2 : 1 * 3000 ≤ a * d := Nat.mul_le_mul z (by omega)
        omega
  · rcases Nat.eq_zero_or_pos c with z | z
    · have e : d = 0 := by omega
      subst z; subst e; simp
    · have q1 : 3000 * 1 ≤ a * c := Nat.mul_le_mul (by omega) z
      have q2 : 3000 * 1 ≤ b * d := Nat.mul_le_mul (by omega) (by omega)
      omega
theorem cq_lt {a b r : Nat} (h : cq a b) (hr : r < 3000) : r < a ↔ r < b := by unfold cq at h; omega
theorem cq_dm {n m q : Nat} (h : cq n m) (hq : q < 3000) : q / n = q / m ∧ q % n = q % m := by
  unfold cq at h
  by_cases hn : n < 3000
  · have e : n = m := by omega
    subst e; exact ⟨rfl, rfl⟩
  · rw [Nat.div_eq_of_lt (by omega), Nat.div_eq_of_lt (by omega), Nat.mod_eq_of_lt (by omega), Nat.mod_eq_of_lt (by omega)]
    exact ⟨rfl, rfl⟩
/-- picking among offers is picking in the list that they stand for -/
theorem pk_get {lo : sc_O → List gR} : ∀ (l : List sc_O) (r : Nat) (e : sc_O) (q : Nat), (∀ e ∈ l, cq e.2.2.2.2 (lo e).length) → r < 3000 → pk_ l r = some (e, q) → (l.flatMap lo)[r]? = (lo e)[q]?
  | [], _, _, _, _, _, h => by cases h
  | e0 :: l, r, e, q, hl, hr, h => by
    have h0 := hl e0 List.mem_cons_self
    rw [List.flatMap_cons]
    unfold pk_ at h
    by_cases h1 : r < e0.2.2.2.2
    · rw [if_pos h1] at h
      cases h
      exact List.getElem?_append_left ((cq_lt h0 hr).mp h1)
    · rw [if_neg h1] at h
      have e1 : e0.2.2.2.2 = (lo e0).length := by unfold cq at h0; omega
      rw [List.getElem?_append_right (by omega), ← e1]
      exact pk_get l _ e q (fun x hx => hl x (List.mem_cons_of_mem _ hx)) (by omega) h
theorem sm_cq {lo : sc_O → List gR} : ∀ l : List sc_O, (∀ e ∈ l, cq e.2.2.2.2 (lo e).length) → cq (sm_o l) (l.flatMap lo).length
  | [], _ => cq_rf 0
  | e :: l, h => by
    rw [sm_cons, List.flatMap_cons, List.length_append]
    exact cq_add (h e List.mem_cons_self) (sm_cq l (fun x hx => h x (List.mem_cons_of_mem _ hx)))
/-! what the offers stand for -/
def gB (sg : Nat) (U P : Nat → Nat → List gR) (k a to f c c2 : Nat) : List gR :=
  if f ≤ 2 then [([f], [fl_ sg k])]
  else if f = 3 then [([3], [fl_ sg k, 0])]
  else if f = 4 then (gx (U a c) (U c to)).map (gc ([4], []))
  else if f = 5 then (P a to).map (gc ([5], []))
  else if f = 6 then (gx (U a c) (gx (U c c2) (U c2 to))).map (gc ([6], []))
  else if f = 7 then (U (a + 1) to).map (gc ([7], [2 * fl_ sg (k + 1)]))
  else if f = 8 then (U a c).map (fun x => gc (gc ([8], []) x) ([], [2 * fl_ sg (k + 1)]))
  else if f = 9 then (U a c).map (fun x => gc (gc ([9], []) x) ([], [2 * fl_ sg (k + 1)]))
  else if f = 10 then (gx (U a c) (P c to)).map (gc ([10], []))
  else (gx (P a c) (U c to)).map (gc ([11], []))
def gO (sg : Nat) (U P : Nat → Nat → List gR) (k a b : Nat) (e : sc_O) : List gR :=
  if e.2.2.2.2 = 0 then [] else if e.2.2.2.1 = true then (gB sg U P k a (b - 1) e.1 e.2.1 e.2.2.1).map (fun x => gc x ([12], [0])) else gB sg U P k a b e.1 e.2.1 e.2.2.1
def g3 (sg k a b : Nat) : gR := if b = a + 1 then ([16], [2 * fl_ sg k / 3]) else ([17], [fl_ sg k / 3, fl_ sg k / 3])
def gT (sg k a b c c2 : Nat) : gR := gc ([15], []) (gc (g3 sg k a c) (gc (g3 sg k c c2) (g3 sg k c2 b)))
def gQ (sg : Nat) (U : Nat → Nat → List gR) (k a b : Nat) (e : sc_O) : List gR :=
  if e.2.2.2.2 = 0 then [] else if e.1 = 15 then [gT sg k a b e.2.1 e.2.2.1] else if e.1 = 13 then (U (a + 2) b).map (gc ([13], [3 * fl_ sg (k + 1), 0])) else (U a (b - 2)).map (fun x => gc (gc ([14], []) x) ([], [3 * fl_ sg (k + 1), 0]))
def gUP (w : ro_w) (sg : Nat) (T : Nat → Nat) : Nat → (Nat → Nat → List gR) × (Nat → Nat → List gR)
  | 0 => (fun _ _ => [], fun _ _ => [])
  | n + 1 => (fun a b => if a < b ∧ b ≤ w.1 then (sp_unit w sg T (6 - n) a b).flatMap (gO sg (gUP w sg T n).1 (gUP w sg T n).2 (6 - n) a b) else [], fun a b => if a < b ∧ b ≤ w.1 then (sp_pair w sg T (6 - n) a b).flatMap (gQ sg (gUP w sg T n).1 (6 - n) a b) else [])
def gU (w : ro_w) (sg : Nat) (T : Nat → Nat) (k : Nat) : Nat → Nat → List gR := (gUP w sg T (7 - k)).1
def gP (w : ro_w) (sg : Nat) (T : Nat → Nat) (k : Nat) : Nat → Nat → List gR := (gUP w sg T (7 - k)).2
section GRS
variable {w : ro_w} {sg g : Nat} {T I : Nat → Nat}
theorem gU_eq {k a b : Nat} (hk : k ≤ 6) : gU w sg T k a b = if a < b ∧ b ≤ w.1 then (sp_unit w sg T k a b).flatMap (gO sg (gU w sg T (k + 1)) (gP w sg T (k + 1)) k a b) else [] := by
  unfold gU gP
  rw [show 7 - k = (6 - k) + 1 from by omega, show 7 - (k + 1) = 6 - k from by omega]
  show (if a < b ∧ b ≤ w.1 then (sp_unit w sg T (6 - (6 - k)) a b).flatMap _ else []) = _
  rw [show 6 - (6 - k) = k from by omega]
theorem gP_eq {k a b : Nat} (hk : k ≤ 6) : gP w sg T k a b = if a < b ∧ b ≤ w.1 then (sp_pair w sg T k a b).flatMap (gQ sg (gU w sg T (k + 1)) k a b) else [] := by
  unfold gU gP
  rw [show 7 - k = (6 - k) + 1 from by omega, show 7 - (k + 1) = 6 - k from by omega]
  show (if a < b ∧ b ≤ w.1 then (sp_pair w sg T (6 - (6 - k)) a b).flatMap _ else []) = _
  rw [show 6 - (6 - k) = k from by omega]
theorem gU_7 {k a b : Nat} (hk : 7 ≤ k) : gU w sg T k a b = [] := by unfold gU; rw [show 7 - k = 0 from by omega]; rfl
theorem gP_7 {k a b : Nat} (hk : 7 ≤ k) : gP w sg T k a b = [] := by unfold gP; rw [show 7 - k = 0 from by omega]; rfl
theorem gU_ge {k a b : Nat} (h : ¬ (a < b ∧ b ≤ w.1)) : gU w sg T k a b = [] := by
  rcases Nat.lt_or_ge k 7 with z | z
  · rw [gU_eq (by omega), if_neg h]
  · exact gU_7 z
theorem gP_ge {k a b : Nat} (h : ¬ (a < b ∧ b ≤ w.1)) : gP w sg T k a b = [] := by
  rcases Nat.lt_or_ge k 7 with z | z
  · rw [gP_eq (by omega), if_neg h]
  · exact gP_7 z
/-- all offers of a perfect unit -/
theorem per_all {M : sc_O → Prop} {k a b : Nat} {dot : Bool} (h6 : ∀ m p, a < m → m < p → p < b → M (sp_6 T k a b dot m p)) (h7 : ro_plain w a k = true → M (7, a + 1, 0, dot, tb_w T 0 (k + 1) (a + 1) b)) (h8 : a < b - 1 → ro_plain w (b - 1) (k + 1) = true → 0 ≤ ro_next w (b - 1) → ro_next w (b - 1) ≤ k → M (8, b - 1, 0, dot, tb_w T 0 (k + 1) a (b - 1))) (h9 : a < b - 1 → ro_plain w (b - 1) k = true → ro_next w (b - 1) ≠ k → M (9, b - 1, 0, dot, tb_w T 0 (k + 1) a (b - 1))) (h10 : ∀ m, a < m → m < b → M (sp_10 T k a b dot m)) (h11 : ∀ m, a < m → m < b → M (sp_11 T k a b dot m)) : ∀ e ∈ sp_per w T k a b dot, M e := by
  intro e h
  unfold sp_per at h
  rcases List.mem_append.mp h with h | h
  · unfold sp_p6 at h
    rw [List.mem_flatMap] at h
    obtain ⟨m, hm, h⟩ := h
    split at h
    · rw [List.mem_map] at h
      obtain ⟨p, hp, rfl⟩ := h
      rw [sp_rg_mem] at hm hp
      exact h6 m p hm.1 hp.1 hp.2
    · cases h
  · rcases List.mem_append.mp h with h | h
    · unfold sp_p7 at h
      split at h
      · next hf => rw [List.mem_singleton] at h; subst h; exact h7 hf
      · cases h
    · rcases List.mem_append.mp h with h | h
      · unfold sp_p8 at h
        split at h
        · next hf => rw [List.mem_singleton] at h; subst h; exact h8 hf.1 hf.2.1 hf.2.2.1 hf.2.2.2
        · cases h
      · rcases List.mem_append.mp h with h | h
        · unfold sp_p9 at h
          split at h
          · next hf => rw [List.mem_singleton] at h; subst h; exact h9 hf.1 hf.2.1 hf.2.2
          · cases h
        · rcases List.mem_append.mp h with h | h
          · rw [List.mem_map] at h
            obtain ⟨m, hm, rfl⟩ := h
            rw [sp_rg_mem] at hm
            exact h10 m hm.1 hm.2
          · rw [List.mem_map] at h
            obtain ⟨m, hm, rfl⟩ := h
            rw [sp_rg_mem] at hm
            exact h11 m hm.1 hm.2
theorem perf_lt {k : Nat} (h : sp_perf sg k = true) : k < 4 := by unfold sp_perf at h; simp at h; exact h.1
/-- all offers of a unit; of a pair -/
theorem un_all {M : sc_O → Prop} {k a b : Nat} (h1 : b = a + 1 → M (1, 0, 0, false, Bool.toNat (ro_plain w a k))) (h2 : b = a + 1 → M (2, 0, 0, false, Bool.toNat (ro_rest w a k)))
    (h4 : sp_perf sg k = false → k < 6 → ∀ m, a < m → m < b → M (sp_4 T k a b m)) (h5 : sp_perf sg k = false → k < 6 → M (5, 0, 0, false, tb_w T 1 (k + 1) a b))
    (h3 : sp_perf sg k = true → b = a + 2 → M (3, 0, 0, false, Bool.toNat (ro_plain w a k && ro_dot w (a + 1)))) (h1d : sp_perf sg k = true → b = a + 2 → M (1, 0, 0, true, Bool.toNat (ro_plain w a k && ro_dot w (a + 1)))) (h2d : sp_perf sg k = true → b = a + 2 → M (2, 0, 0, true, Bool.toNat (ro_rest w a k && ro_dot w (a + 1))))
    (hp : sp_perf sg k = true → ∀ e ∈ sp_per w T k a b false, M e) (hq : sp_perf sg k = true → ro_dot w (b - 1) = true → ∀ e ∈ sp_per w T k a (b - 1) true, M e) : ∀ e ∈ sp_unit w sg T k a b, M e := by
  intro e h
  unfold sp_unit at h
  rcases List.mem_append.mp h with h | h
  · unfold sp_u1 at h
    split at h
    · next hf =>
      rcases List.mem_cons.mp h with h | h
      · subst h; exact h1 hf
      · rw [List.mem_singleton] at h; subst h; exact h2 hf
    · cases h
  · split at h
    · next hi =>
      split at h
      · next hk =>
        rcases List.mem_append.mp h with h | h
        · rw [List.mem_map] at h
          obtain ⟨m, hm, rfl⟩ := h
          rw [sp_rg_mem] at hm
          exact h4 hi hk m hm.1 hm.2
        · rw [List.mem_singleton] at h; subst h; exact h5 hi hk
      · cases h
    · next hi =>
      have hi : sp_perf sg k = true := by simpa using hi
      rcases List.mem_append.mp h with h | h
      · unfold sp_u3 at h
        split at h
        · next hf =>
          rcases List.mem_cons.mp h with h | h
          · subst h; exact h3 hi hf
          · rcases List.mem_cons.mp h with h | h
            · subst h; exact h1d hi hf
            · rw [List.mem_singleton] at h; subst h; exact h2d hi hf
        · cases h
      · rcases List.mem_append.mp h with h | h
        · exact hp hi e h
        · split at h
          · next hd => exact hq hi hd e h
          · cases h
theorem pr_all {M : sc_O → Prop} {k a b : Nat} (h13 : sp_perf sg k = false → k < 6 → ro_plain w a k = true → ro_dot w (a + 1) = true → M (13, a + 2, 0, false, tb_w T 0 (k + 1) (a + 2) b)) (h14 : sp_perf sg k = false → k < 6 → a + 2 < b → ro_plain w (b - 2) k = true → ro_dot w (b - 1) = true → M (14, b - 2, 0, false, tb_w T 0 (k + 1) a (b - 2))) (h15 : ∀ m p, a < m → m < p → p < b → M (sp_t2 w k a b m p)) : ∀ e ∈ sp_pair w sg T k a b, M e := by
  intro e h
  unfold sp_pair at h
  rcases List.mem_append.mp h with h | h
  · split at h
    · next hi =>
      rcases List.mem_append.mp h with h | h
      · split at h
        · next hf => rw [List.mem_singleton] at h; subst h; exact h13 hi.1 hi.2 hf.1 hf.2
        · cases h
      · split at h
        · next hf => rw [List.mem_singleton] at h; subst h; exact h14 hi.1 hi.2 hf.1 hf.2.1 hf.2.2
        · cases h
    · cases h
  · obtain ⟨m, p, z1, z2, z3, rfl⟩ := th_inv h
    exact h15 m p z1 z2 z3
/-- tables that count kind k's ways as the lists do -/
def lq (w : ro_w) (sg : Nat) (T : Nat → Nat) (k : Nat) : Prop := ∀ a b : Nat, b ≤ w.1 → cq (tb_w T 0 k a b) (gU w sg T k a b).length ∧ cq (tb_w T 1 k a b) (gP w sg T k a b).length
theorem gB_cq {k a to f c c2 n : Nat} {U P : Nat → Nat → List gR} (h : cq n (gB sg U P k a to f c c2).length) {d : Bool} : cq n (if n = 0 then ([] : List gR) else if d = true then (gB sg U P k a to f c c2).map (fun x => gc x ([12], [0])) else gB sg U P k a to f c c2).length := by
  by_cases h0 : n = 0
  · rw [if_pos h0, h0]; exact cq_rf 0
  · rw [if_neg h0]
    cases d
    · exact h
    · rw [if_pos rfl, List.length_map]; exact h
theorem gO_per {k a b : Nat} (b0 : Nat) (hb : b ≤ w.1) (hl : lq w sg T (k + 1)) {dot : Bool} (hd : (if dot = true then b0 - 1 else b0) = b) : ∀ e ∈ sp_per w T k a b dot, cq e.2.2.2.2 (gO sg (gU w sg T (k + 1)) (gP w sg T (k + 1)) k a b0 e).length := by
  have key : ∀ (f c c2 n : Nat), cq n (gB sg (gU w sg T (k + 1)) (gP w sg T (k + 1)) k a b f c c2).length → cq n (gO sg (gU w sg T (k + 1)) (gP w sg T (k + 1)) k a b0 (f, c, c2, dot, n)).length := by
    intro f c c2 n h
    have := gB_cq (d := dot) h
    unfold gO
    dsimp only
    cases dot
    · rw [if_neg (by decide)] at hd; subst hd; exact this
    · rw [if_pos rfl] at hd; rw [hd]; exact this
  apply per_all
  · intro m p h1 h2 h3
    apply key
    rw [show gB sg (gU w sg T (k + 1)) (gP w sg T (k + 1)) k a b 6 m p = (gx (gU w sg T (k + 1) a m) (gx (gU w sg T (k + 1) m p) (gU w sg T (k + 1) p b))).map (gc ([6], [])) from rfl, List.length_map, gx_len, gx_len, ← Nat.mul_assoc]
    exact cq_mul (cq_cap (cq_mul (hl a m (by omega)).1 (hl m p (by omega)).1)) (hl p b hb).1
  · intro _
    apply key
    rw [show gB sg (gU w sg T (k + 1)) (gP w sg T (k + 1)) k a b 7 (a + 1) 0 = (gU w sg T (k + 1) (a + 1) b).map (gc ([7], [2 * fl_ sg (k + 1)])) from rfl, List.length_map]
    exact (hl (a + 1) b hb).1
  · intro _ _ _ _
    apply key
    rw [show gB sg (gU w sg T (k + 1)) (gP w sg T (k + 1)) k a b 8 (b - 1) 0 = (gU w sg T (k + 1) a (b - 1)).map (fun x => gc (gc ([8], []) x) ([], [2 * fl_ sg (k + 1)])) from rfl, List.length_map]
    exact (hl a (b - 1) (by omega)).1
  · intro _ _ _
    apply key
    rw [show gB sg (gU w sg T (k + 1)) (gP w sg T (k + 1)) k a b 9 (b - 1) 0 = (gU w sg T (k + 1) a (b - 1)).map (fun x => gc (gc ([9], []) x) ([], [2 * fl_ sg (k + 1)])) from rfl, List.length_map]
    exact (hl a (b - 1) (by omega)).1
  · intro m h1 h2
    apply key
    rw [show gB sg (gU w sg T (k + 1)) (gP w sg T (k + 1)) k a b 10 m 0 = (gx (gU w sg T (k + 1) a m) (gP w sg T (k + 1) m b)).map (gc ([10], [])) from rfl, List.length_map, gx_len]
    exact cq_mul (hl a m (by omega)).1 (hl m b hb).2
  · intro m h1 h2
    apply key
    rw [show gB sg (gU w sg T (k + 1)) (gP w sg T (k + 1)) k a b 11 m 0 = (gx (gP w sg T (k + 1) a m) (gU w sg T (k + 1) m b)).map (gc ([11], [])) from rfl, List.length_map, gx_len]
    exact cq_mul (hl a m (by omega)).2 (hl m b hb).1
theorem gO_b (f k a b : Nat) (d z : Bool) (hf : f ≤ 3) {U P : Nat → Nat → List gR} : cq (Bool.toNat z) (gO sg U P k a b (f, 0, 0, d, Bool.toNat z)).length := by
  unfold gO
  dsimp only
  cases z
  · exact cq_rf 0
  · rw [if_neg (by decide)]
    have h1 : ∀ to, (gB sg U P k a to f 0 0).length = 1 := by
      intro to
      unfold gB
      by_cases h : f ≤ 2
      · rw [if_pos h]; rfl
      · rw [if_neg h, if_pos (by omega)]; rfl
    cases d
    · rw [if_neg (by decide), h1]; exact cq_rf 1
    · rw [if_pos rfl, List.length_map, h1]; exact cq_rf 1
theorem gO_cq {k a b : Nat} (hb : b ≤ w.1) (hl : lq w sg T (k + 1)) : ∀ e ∈ sp_unit w sg T k a b, cq e.2.2.2.2 (gO sg (gU w sg T (k + 1)) (gP w sg T (k + 1)) k a b e).length := by
  apply un_all
  · exact fun _ => gO_b 1 k a b false _ (by decide)
  · exact fun _ => gO_b 2 k a b false _ (by decide)
  · intro _ _ m h1 h2
    refine gB_cq (d := false) ?_
    rw [show gB sg (gU w sg T (k + 1)) (gP w sg T (k + 1)) k a b (sp_4 T k a b m).1 (sp_4 T k a b m).2.1 (sp_4 T k a b m).2.2.1 = (gx (gU w sg T (k + 1) a m) (gU w sg T (k + 1) m b)).map (gc ([4], [])) from rfl, List.length_map, gx_len]
    exact cq_mul (hl a m (by omega)).1 (hl m b hb).1
  · intro _ _
    refine gB_cq (d := false) ?_
    rw [show gB sg (gU w sg T (k + 1)) (gP w sg T (k + 1)) k a b 5 0 0 = (gP w sg T (k + 1) a b).map (gc ([5], [])) from rfl, List.length_map]
    exact (hl a b hb).2
  · exact fun _ _ => gO_b 3 k a b false _ (by decide)
  · exact fun _ _ => gO_b 1 k a b true _ (by decide)
  · exact fun _ _ => gO_b 2 k a b true _ (by decide)
  · exact fun _ => gO_per b hb hl rfl
  · exact fun _ _ => gO_per b (by omega) hl rfl
theorem gQ_cq {k a b : Nat} (hb : b ≤ w.1) (hl : lq w sg T (k + 1)) : ∀ e ∈ sp_pair w sg T k a b, cq e.2.2.2.2 (gQ sg (gU w sg T (k + 1)) k a b e).length := by
  have key : ∀ n : Nat, ∀ l : List gR, cq n l.length → cq n (if n = 0 then ([] : List gR) else l).length := by
    intro n l h
    by_cases h0 : n = 0
    · rw [if_pos h0, h0]; exact cq_rf 0
    · rw [if_neg h0]; exact h
  apply pr_all
  · intro _ _ _ _
    refine key _ ((gU w sg T (k + 1) (a + 2) b).map (gc ([13], [3 * fl_ sg (k + 1), 0]))) ?_
    rw [List.length_map]
    exact (hl (a + 2) b hb).1
  · intro _ _ _ _ _
    refine key _ ((gU w sg T (k + 1) a (b - 2)).map (fun x => gc (gc ([14], []) x) ([], [3 * fl_ sg (k + 1), 0]))) ?_
    rw [List.length_map]
    exact (hl a (b - 2) (by omega)).1
  · intro m p _ _ _
    have h1 : ro_third w k a m * ro_third w k m p * ro_third w k p b ≤ 1 := by
      have := Nat.mul_le_mul (Nat.mul_le_mul (ro_third_le (w := w) (k := k) (a := a) (b := m)) (ro_third_le (w := w) (k := k) (a := m) (b := p))) (ro_third_le (w := w) (k := k) (a := p) (b := b))
      omega
    show cq (ro_third w k a m * ro_third w k m p * ro_third w k p b) (if ro_third w k a m * ro_third w k m p * ro_third w k p b = 0 then ([] : List gR) else [gT sg k a b m p]).length
    by_cases h0 : ro_third w k a m * ro_third w k m p * ro_third w k p b = 0
    · rw [if_pos h0, h0]; exact cq_rf 0
    · rw [if_neg h0, show ro_third w k a m * ro_third w k m p * ro_third w k p b = 1 from by omega]; exact cq_rf 1
theorem lq_all (hc : tc_ w sg g T I) : ∀ n k, k + n = 7 → lq w sg T k
  | 0, k, h => fun a b _ => by
    rw [gU_7 (by omega), gP_7 (by omega), show tb_w T 0 k a b = 0 from if_pos (by omega), show tb_w T 1 k a b = 0 from if_pos (by omega)]
    exact ⟨cq_rf 0, cq_rf 0⟩
  | n + 1, k, h => fun a b hb => by
    have ih := lq_all hc n (k + 1) (by omega)
    have hw := hc.2.2.2.1
    by_cases hab : a < b
    · have hd := hc.1 k a b (Nat.zero_le _) (by omega) hab hb
      have e0 : tb_w T 0 k a b = T (tb_ix 0 k a b) := if_neg (by omega)
      have e1 : tb_w T 1 k a b = T (tb_ix 1 k a b) := if_neg (by omega)
      rw [gU_eq (by omega), gP_eq (by omega), if_pos ⟨hab, hb⟩, if_pos ⟨hab, hb⟩, e0, e1, hd.1, hd.2]
      exact ⟨cq_cap (sm_cq _ (gO_cq hb ih)), cq_cap (sm_cq _ (gQ_cq hb ih))⟩
    · rw [gU_ge (by omega), gP_ge (by omega)]
      have z : ∀ what, what < 2 → tb_w T what k a b = 0 := by
        intro what hwh
        rcases Nat.eq_zero_or_pos (tb_w T what k a b) with z | z
        · exact z
        · have := tb_pos hc hwh z
          omega
      rw [z 0 (by decide), z 1 (by decide)]
      exact ⟨cq_rf 0, cq_rf 0⟩
theorem lq_k (hc : tc_ w sg g T I) (k : Nat) : lq w sg T k := by
  rcases Nat.lt_or_ge k 7 with z | z
  · exact lq_all hc (7 - k) k (by omega)
  · intro a b _
    rw [gU_7 z, gP_7 z, show tb_w T 0 k a b = 0 from if_pos (by omega), show tb_w T 1 k a b = 0 from if_pos (by omega)]
    exact ⟨cq_rf 0, cq_rf 0⟩
end GRS
