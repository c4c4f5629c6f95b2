/-! tasks as the chain holds them -/
section CHN
variable {w : ro_w} {sg g : Nat}
def tq_ (g : Nat) (t : gK) : Prop := (1 ≤ t.1 ∧ t.1 ≤ 7) ∧ t.2.1 ≤ 6 ∧ (t.1 ≤ 2 → g ≤ t.2.1) ∧ (t.1 = 6 → t.2.1 < 4)
/-- dots behind units: the lesser kind first -/
def da_ : List gK → Prop
  | [] => True
  | t :: r => da_ r ∧ ∀ u r', r = u :: r' → u.1 = 6 → (t.1 = 1 ∨ t.1 = 2 ∨ t.1 = 6) → u.2.1 < t.2.1
def wf_ (g : Nat) (ts : List gK) : Prop := (∀ t ∈ ts, tq_ g t) ∧ da_ ts
theorem wf_tl {t : gK} {r : List gK} (h : wf_ g (t :: r)) : wf_ g r := ⟨fun x hx => h.1 x (List.mem_cons_of_mem _ hx), h.2.1⟩
theorem wf_kk {ts : List gK} (h : wf_ g ts) : kk_ ts := fun t ht => (h.1 t ht).2.1
theorem wf_s {ts : List gK} (h : wf_ g ts) : ∀ t ∈ ts, 1 ≤ t.1 ∧ t.1 ≤ 7 := fun t ht => (h.1 t ht).1
theorem wf_nil : wf_ g [] := ⟨fun t ht => (by cases ht), trivial⟩
/-- one task more; what is behind it is less than it if it is a dot -/
theorem wf_cons {t : gK} {r : List gK} (h : wf_ g r) (ht : tq_ g t) (hd : ∀ u r', r = u :: r' → u.1 = 6 → (t.1 = 1 ∨ t.1 = 2 ∨ t.1 = 6) → u.2.1 < t.2.1) : wf_ g (t :: r) := ⟨fun x hx => by
  rcases List.mem_cons.mp hx with e | e
  · rw [e]; exact ht
  · exact h.1 x e, h.2, hd⟩
/-- the dots behind are of kinds less than k -/
def db_ (k : Nat) (r : List gK) : Prop := ∀ u r', r = u :: r' → u.1 = 6 → u.2.1 < k
theorem db_le {k k' : Nat} {r : List gK} (h : db_ k r) (hk : k ≤ k') : db_ k' r := fun u r' e z => Nat.lt_of_lt_of_le (h u r' e z) hk
theorem db_nil {k : Nat} : db_ k [] := fun u r' e => by cases e
theorem db_cons {k : Nat} {t : gK} {r : List gK} (h : t.1 = 6 → t.2.1 < k) : db_ k (t :: r) := fun u r' e z => by
  have e1 := List.head_eq_of_cons_eq e
  subst e1
  exact h z
theorem wf_c1 {t : gK} {r : List gK} (h : wf_ g r) (ht : tq_ g t) (hd : db_ t.2.1 r) : wf_ g (t :: r) := wf_cons h ht (fun u r' e z _ => hd u r' e z)
theorem wf_c2 {t : gK} {r : List gK} (h : wf_ g r) (ht : tq_ g t) (hd : ¬ (t.1 = 1 ∨ t.1 = 2 ∨ t.1 = 6)) : wf_ g (t :: r) := wf_cons h ht (fun _ _ _ _ z => absurd z hd)
theorem wf_db {t : gK} {r : List gK} (h : wf_ g (t :: r)) (ht : t.1 = 1 ∨ t.1 = 2 ∨ t.1 = 6) : db_ t.2.1 r := fun u r' e z => h.2.2 u r' e z ht
/-- the tasks of a form, before what is behind -/
theorem wf_dv {k : Nat} {r : List gK} (h : wf_ g r) (hk : k ≤ 6) (hd : db_ k r) : wf_ g (dv_ sg k ++ r) ∧ db_ (k + 1) (dv_ sg k ++ r) := by
  unfold dv_
  split
  · next hp => exact ⟨wf_c1 h ⟨⟨by simp, by simp⟩, hk, fun z => absurd z (by simp), fun _ => perf_lt hp⟩ hd, db_cons (fun _ => Nat.lt_succ_self k)⟩
  · exact ⟨h, db_le hd (Nat.le_succ k)⟩
theorem wf_ts {k f : Nat} {r : List gK} (h : wf_ g r) (hkk : kk_ (ts_ sg k f)) (hk : k ≤ 6) (hg : g ≤ k ∨ f = 1 ∨ f = 2 ∨ 15 ≤ f) (hf : (f ≤ 14 ∧ db_ k r) ∨ 15 ≤ f) : wf_ g (ts_ sg k f ++ r) := by
  by_cases c0 : 15 ≤ f
  · have e : ts_ sg k f = t0_ sg k f := by
      unfold ts_
      rw [if_neg (by omega), List.append_nil]
    rw [e]
    by_cases c15 : f = 15
    · subst c15
      have a : ∀ x : gK, x.1 = 3 → x.2.1 = k → tq_ g x := fun x h1 h2 => ⟨by omega, by omega, fun z => by omega, fun z => by omega⟩
      exact wf_c2 (wf_c2 (wf_c2 h (a _ rfl rfl) (by simp)) (a _ rfl rfl) (by simp)) (a _ rfl rfl) (by simp)
    · have e : t0_ sg k f = [] := by unfold t0_; rw [if_neg (by omega), if_neg (by omega), if_neg (by omega), if_neg (by omega), if_neg (by omega), if_neg (by omega), if_neg (by omega), if_neg (by omega), if_neg (by omega), if_neg (by omega), if_neg c15]
      rw [e]
      exact h
  have hd : db_ k r := by
    rcases hf with hf | hf
    · exact hf.2
    · omega
  -- what stands behind the parts
  have key : ∀ r', wf_ g r' → db_ (k + 1) r' → (t0_ sg k f ≠ [] → g ≤ k) → kk_ (t0_ sg k f) → wf_ g (t0_ sg k f ++ r') := by
    intro r' h1 h2 h3 h4
    have ux : ∀ x : gK, (x.1 = 1 ∨ x.1 = 2) → x.2.1 = k + 1 → g ≤ k → k + 1 ≤ 6 → tq_ g x := fun x a b c d => ⟨by omega, by omega, fun _ => by omega, fun z => by omega⟩
    have cu : ∀ (s : Nat) (q : List gK), (s = 1 ∨ s = 2) → wf_ g q → db_ (k + 1) q → g ≤ k → k + 1 ≤ 6 → wf_ g ((s, k + 1, 0) :: q) ∧ db_ (k + 1) ((s, k + 1, 0) :: q) := fun s q hs a b c d => ⟨wf_c1 a (ux _ hs rfl c d) b, db_cons (fun z => by rcases hs with rfl | rfl <;> exact absurd z (by simp))⟩
    have k6 : ∀ (s : Nat) (q : List gK), t0_ sg k f = (s, k + 1, 0) :: q → k + 1 ≤ 6 := fun s q e => h4 (s, k + 1, 0) (by rw [e]; exact List.mem_cons_self)
    by_cases c : f = 4
    · subst c
      have g1 := h3 (fun z => by cases z)
      have g6 := k6 1 _ rfl
      have a1 := cu 1 r' (Or.inl rfl) h1 h2 g1 g6
      exact (cu 1 _ (Or.inl rfl) a1.1 a1.2 g1 g6).1
    by_cases c : f = 5
    · subst c
      have g1 := h3 (fun z => by cases z)
      exact (cu 2 r' (Or.inr rfl) h1 h2 g1 (k6 2 _ rfl)).1
    by_cases c : f = 6
    · subst c
      have g1 := h3 (fun z => by cases z)
      have g6 := k6 1 _ rfl
      have a1 := cu 1 r' (Or.inl rfl) h1 h2 g1 g6
      have a2 := cu 1 _ (Or.inl rfl) a1.1 a1.2 g1 g6
      exact (cu 1 _ (Or.inl rfl) a2.1 a2.2 g1 g6).1
    by_cases c : f = 7
    · subst c
      have g1 := h3 (fun z => by cases z)
      exact (cu 1 r' (Or.inl rfl) h1 h2 g1 (k6 1 _ rfl)).1
    by_cases c : f = 8
    · subst c
      have g1 := h3 (fun z => by cases z)
      have g6 := k6 1 _ rfl
      have a1 : wf_ g ((4, k + 1, 2 * fl_ sg (k + 1)) :: r') := wf_c2 h1 ⟨⟨by simp, by simp⟩, g6, fun z => absurd z (by simp), fun z => absurd z (by simp)⟩ (by simp)
      exact (cu 1 _ (Or.inl rfl) a1 (db_cons (fun z => absurd z (by simp))) g1 g6).1
    by_cases c : f = 9
    · subst c
      have g1 := h3 (fun z => by cases z)
      have g6 := k6 1 _ rfl
      have a1 : wf_ g ((7, k, 2 * fl_ sg (k + 1)) :: r') := wf_c2 h1 ⟨⟨by simp, by simp⟩, hk, fun z => absurd z (by simp), fun z => absurd z (by simp)⟩ (by simp)
      exact (cu 1 _ (Or.inl rfl) a1 (db_cons (fun z => absurd z (by simp))) g1 g6).1
    by_cases c : f = 10
    · subst c
      have g1 := h3 (fun z => by cases z)
      have g6 := k6 1 _ rfl
      have a1 := cu 2 r' (Or.inr rfl) h1 h2 g1 g6
      exact (cu 1 _ (Or.inl rfl) a1.1 a1.2 g1 g6).1
    by_cases c : f = 11
    · subst c
      have g1 := h3 (fun z => by cases z)
      have g6 := k6 2 _ rfl
      have a1 := cu 1 r' (Or.inl rfl) h1 h2 g1 g6
      exact (cu 2 _ (Or.inr rfl) a1.1 a1.2 g1 g6).1
    by_cases c : f = 13
    · subst c
      have g1 := h3 (fun z => by cases z)
      exact (cu 1 r' (Or.inl rfl) h1 h2 g1 (k6 1 _ rfl)).1
    by_cases c : f = 14
    · subst c
      have g1 := h3 (fun z => by cases z)
      have g6 := k6 1 _ rfl
      have a1 : wf_ g ((5, k, 3 * fl_ sg (k + 1)) :: r') := wf_c2 h1 ⟨⟨by simp, by simp⟩, hk, fun z => absurd z (by simp), fun z => absurd z (by simp)⟩ (by simp)
      exact (cu 1 _ (Or.inl rfl) a1 (db_cons (fun z => absurd z (by simp))) g1 g6).1
    have e : t0_ sg k f = [] := by unfold t0_; rw [if_neg (by omega), if_neg (by omega), if_neg (by omega), if_neg (by omega), if_neg (by omega), if_neg (by omega), if_neg (by omega), if_neg (by omega), if_neg (by omega), if_neg (by omega), if_neg (by omega)]
    rw [e]
    exact h1
  have hg2 : t0_ sg k f ≠ [] → g ≤ k := fun z => by
    rcases hg with hg | hg | hg | hg
    · exact hg
    · subst hg; exact absurd rfl z
    · subst hg; exact absurd rfl z
    · omega
  have hk0 : kk_ (t0_ sg k f) := fun t ht => hkk t (by unfold ts_; exact List.mem_append_left _ ht)
  unfold ts_
  rw [List.append_assoc]
  by_cases c : f ≤ 2 ∨ 6 ≤ f ∧ f ≤ 11
  · rw [if_pos c]
    have a := wf_dv (sg := sg) h hk hd
    exact key _ a.1 a.2 hg2 hk0
  · rw [if_neg c, List.nil_append]
    exact key _ h (db_le hd (Nat.le_succ k)) hg2 hk0
/-- adjacent dots are few -/
theorem dvn_7 : ∀ (ts : List gK) (k : Nat), wf_ g ts → db_ k ts → (dvn ts).1 ≤ k
  | [], k, _, _ => Nat.zero_le _
  | t :: r, k, h, hd => by
    unfold dvn
    split
    · next c =>
      have h1 := hd t r rfl c
      have h2 := dvn_7 r t.2.1 (wf_tl h) (wf_db h (Or.inr (Or.inr c)))
      show (dvn r).1 + 1 ≤ k
      omega
    · exact Nat.zero_le _
theorem dvn_le4 {ts : List gK} (h : wf_ g ts) : (dvn ts).1 ≤ 4 := by
  refine dvn_7 (g := g) ts 4 h (fun u r' e z => ?_)
  have := (h.1 u (by rw [e]; exact List.mem_cons_self)).2.2.2 z
  omega
theorem wf_dvn : ∀ {ts : List gK}, wf_ g ts → wf_ g (dvn ts).2
  | [], h => h
  | t :: r, h => by
    unfold dvn
    split
    · exact wf_dvn (wf_tl h)
    · exact h
end CHN
