/-! the chain of tasks, the draft, as memory -/
/-- the places from which a chain can be done -/
def mp_ (w : ro_w) (sg g : Nat) (ts : List gK) (M : Nat) : Prop := M < 2 ^ 27 ∧ mb M (fun q => q ≤ w.1 ∧ lvE w sg g ts q)
section MPS
variable {w : ro_w} {sg g dt : Nat} {E U P H PL RS CO AL LI : Nat → Nat} {X : Nat → Nat → Int32}
theorem mp_unit {k v M : Nat} {r : List gK} (hs : spf_ X w sg g dt E U P H PL RS CO AL LI) (h : mp_ w sg g r M) (hg : g ≤ k) (hk : k ≤ 6) : mp_ w sg g ((1, k, v) :: r) (bef_ U (k * 27) M w.1) := by
  have h24 := hs.1.1.1.2
  refine ⟨bef_lt w.1 (by omega), mb_iff (mb_bef h.2 (fun q hq => mb_iff ((hs.2.2.1 k q hk (by omega)).1 (by unfold cdn; omega)).2.1 (fun m => US_g hk hg)) (fun q m z => by have := un_lt z; omega)) (fun q => ?_)⟩
  rw [lv_cons]
  constructor
  · rintro ⟨m, a1, a2, a3⟩
    have := un_lt a1
    exact ⟨by omega, m, a1, a3⟩
  · rintro ⟨a1, m, a2, a3⟩
    have := un_lt (w := w) (sg := sg) (g := g) (k := k) (p := q) (m := m) a2
    exact ⟨m, a2, by omega, a3⟩
theorem mp_pair {k v M : Nat} {r : List gK} (hs : spf_ X w sg g dt E U P H PL RS CO AL LI) (h : mp_ w sg g r M) (hg : g ≤ k) (hk : k ≤ 6) : mp_ w sg g ((2, k, v) :: r) (bef_ P (k * 27) M w.1) := by
  have h24 := hs.1.1.1.2
  refine ⟨bef_lt w.1 (by omega), mb_iff (mb_bef h.2 (fun q hq => mb_iff ((hs.2.2.1 k q hk (by omega)).1 (by unfold cdn; omega)).2.2.1 (fun m => PS_g hk hg)) (fun q m z => by have := pa_lt z; omega)) (fun q => ?_)⟩
  rw [lv_cons]
  constructor
  · rintro ⟨m, a1, a2, a3⟩
    have := pa_lt a1
    exact ⟨by omega, m, a1, a3⟩
  · rintro ⟨a1, m, a2, a3⟩
    have := pa_lt (w := w) (sg := sg) (g := g) (k := k) (p := q) (m := m) a2
    exact ⟨m, a2, by omega, a3⟩
theorem mp_third {k M : Nat} {r : List gK} (hs : spf_ X w sg g dt E U P H PL RS CO AL LI) (h : mp_ w sg g r M) (hk : k ≤ 6) : mp_ w sg g ((3, k, 0) :: r) (bef_ H (k * 27) M w.1) := by
  have h24 := hs.1.1.1.2
  refine ⟨bef_lt w.1 (by omega), mb_iff (mb_bef h.2 (fun q hq => ((hs.2.2.1 k q hk (by omega)).1 (by unfold cdn; omega)).2.2.2) (fun q m z => by have := th_lt z; omega)) (fun q => ?_)⟩
  rw [lv_cons]
  constructor
  · rintro ⟨m, a1, a2, a3⟩
    have := th_lt a1
    exact ⟨by omega, m, a1, a3⟩
  · rintro ⟨a1, m, a2, a3⟩
    have := th_lt (w := w) (sg := sg) (g := g) (k := k) (p := q) (m := m) a2
    exact ⟨m, a2, by omega, a3⟩
theorem pK_t {t : gK} {b : Bool} {x : gR} {q d m : Nat} (e : pK w sg g t q = if b = true then [(x, q + d)] else []) : (∃ y, (y, m) ∈ pK w sg g t q) ↔ b = true ∧ m = q + d := by
  rw [e]
  cases b
  · constructor
    · rintro ⟨y, hy⟩; cases hy
    · rintro ⟨h, -⟩; cases h
  · rw [if_pos rfl]
    constructor
    · rintro ⟨y, hy⟩; rw [List.mem_singleton] at hy; exact ⟨rfl, congrArg Prod.snd hy⟩
    · rintro ⟨-, rfl⟩; exact ⟨x, List.mem_singleton.mpr rfl⟩
theorem mp_take {k v M : Nat} {r : List gK} (hs : spf_ X w sg g dt E U P H PL RS CO AL LI) (h : mp_ w sg g r M) (hk : k ≤ 6) : mp_ w sg g ((4, k, v) :: r) ((M >>> 1) &&& AL k) := by
  refine ⟨and_r (by have := (hs.1.2.2.2.1 k (by omega)).2.2.2.1; omega), mb_iff (mb_and (mb_shr h.2 1) (hs.2.1.2 k (by omega)).2.2.2.1) (fun q => ?_)⟩
  rw [lv_cons]
  have e := fun m => pK_t (sg := sg) (g := g) (t := (4, k, v)) (q := q) (m := m) (b := al_ w q k) (x := ([], [v])) (d := 1) rfl
  constructor
  · rintro ⟨⟨a1, a2⟩, a3⟩
    exact ⟨by omega, q + 1, (e _).mpr ⟨a3, rfl⟩, by rw [Nat.add_comm]; exact a2⟩
  · rintro ⟨a1, m, a2, a3⟩
    obtain ⟨b1, b2⟩ := (e m).mp a2
    subst b2
    have b3 := b1
    unfold al_ at b3
    rw [Bool.and_eq_true] at b3
    have := plain_lt b3.1
    exact ⟨⟨by omega, by rw [Nat.add_comm]; exact a3⟩, b1⟩
theorem mp_late {k v M : Nat} {r : List gK} (hs : spf_ X w sg g dt E U P H PL RS CO AL LI) (h : mp_ w sg g r M) (hk : k ≤ 6) : mp_ w sg g ((7, k, v) :: r) ((M >>> 1) &&& LI k) := by
  refine ⟨and_r (by have := (hs.1.2.2.2.1 k (by omega)).2.2.2.2; omega), mb_iff (mb_and (mb_shr h.2 1) (hs.2.1.2 k (by omega)).2.2.2.2) (fun q => ?_)⟩
  rw [lv_cons]
  have e := fun m => pK_t (sg := sg) (g := g) (t := (7, k, v)) (q := q) (m := m) (b := li_ w q k) (x := ([], [v])) (d := 1) rfl
  constructor
  · rintro ⟨⟨a1, a2⟩, a3⟩
    exact ⟨by omega, q + 1, (e _).mpr ⟨a3, rfl⟩, by rw [Nat.add_comm]; exact a2⟩
  · rintro ⟨a1, m, a2, a3⟩
    obtain ⟨b1, b2⟩ := (e m).mp a2
    subst b2
    have b3 := b1
    unfold li_ at b3
    rw [Bool.and_eq_true] at b3
    have := plain_lt b3.1
    exact ⟨⟨by omega, by rw [Nat.add_comm]; exact a3⟩, b1⟩
theorem mp_dotted {k v M : Nat} {r : List gK} (hs : spf_ X w sg g dt E U P H PL RS CO AL LI) (h : mp_ w sg g r M) (hk : k ≤ 6) : mp_ w sg g ((5, k, v) :: r) ((M >>> 2) &&& (PL k &&& dt >>> 1)) := by
  refine ⟨and_r (and_l (by have := (hs.1.2.2.2.1 k (by omega)).1; omega)), mb_iff (mb_and (mb_shr h.2 2) (mb_do hs.2.1 (by omega))) (fun q => ?_)⟩
  rw [lv_cons]
  have e := fun m => pK_t (sg := sg) (g := g) (t := (5, k, v)) (q := q) (m := m) (b := do_ w q k) (x := ([], [v, 0])) (d := 2) rfl
  constructor
  · rintro ⟨⟨a1, a2⟩, a3⟩
    exact ⟨by omega, q + 2, (e _).mpr ⟨a3, rfl⟩, by rw [Nat.add_comm]; exact a2⟩
  · rintro ⟨a1, m, a2, a3⟩
    obtain ⟨b1, b2⟩ := (e m).mp a2
    subst b2
    have b3 := b1
    unfold do_ at b3
    rw [Bool.and_eq_true] at b3
    have := dot_lt b3.2
    exact ⟨⟨by omega, by rw [Nat.add_comm]; exact a3⟩, b1⟩
theorem mp_div {k v M : Nat} {r : List gK} (hs : spf_ X w sg g dt E U P H PL RS CO AL LI) (h : mp_ w sg g r M) : mp_ w sg g ((6, k, v) :: r) (M ||| ((M >>> 1) &&& dt)) := by
  refine ⟨mk_or_lt h.1 (and_r (by have := hs.1.1.2.2; omega)), mb_iff (mb_or h.2 (mb_and (mb_shr h.2 1) hs.2.1.1)) (fun q => ?_)⟩
  rw [lv_cons]
  have e : ∀ m, (∃ x, (x, m) ∈ pK w sg g (6, k, v) q) ↔ m = q ∨ (ro_dot w q = true ∧ m = q + 1) := fun m => Rm_dv
  constructor
  · rintro (⟨a1, a2⟩ | ⟨⟨a1, a2⟩, a3⟩)
    · exact ⟨a1, q, (e _).mpr (Or.inl rfl), a2⟩
    · exact ⟨by omega, q + 1, (e _).mpr (Or.inr ⟨a3, rfl⟩), by rw [Nat.add_comm]; exact a2⟩
  · rintro ⟨a1, m, a2, a3⟩
    rcases (e m).mp a2 with rfl | ⟨b1, rfl⟩
    · exact Or.inl ⟨a1, a3⟩
    · have := dot_lt b1
      exact Or.inr ⟨⟨by omega, by rw [Nat.add_comm]; exact a3⟩, b1⟩
end MPS
/-- task 0: the row -/
def c0_ (X : Nat → Nat → Int32) (w : ro_w) (sg g : Nat) : Prop := X 5 0 = nI 0 ∧ X 8 0 = nI 0 ∧ ∃ M, X 9 0 = nI M ∧ mp_ w sg g [] M
/-- task t and all behind it -/
def ct_ (X : Nat → Nat → Int32) (w : ro_w) (sg g : Nat) : List gK → Nat → Prop
  | [], t => t = 0
  | u :: r, t => (0 < t ∧ t < 128) ∧ X 5 t = nI (if u.1 = 7 then 4 else u.1) ∧ (u.1 ≤ 3 → X 6 t = nI u.2.1) ∧ (u.1 = 4 ∨ u.1 = 5 ∨ u.1 = 7 → X 7 t = nI u.2.2) ∧ (∃ M, X 9 t = nI M ∧ mp_ w sg g (u :: r) M) ∧ ∃ t', t' < t ∧ X 8 t = nI t' ∧ ct_ X w sg g r t'
theorem ct_M {X : Nat → Nat → Int32} {w : ro_w} {sg g t : Nat} {ts : List gK} (h0 : c0_ X w sg g) (h : ct_ X w sg g ts t) : t < 128 ∧ ∃ M, X 9 t = nI M ∧ mp_ w sg g ts M := by
  cases ts with
  | nil => have h : t = 0 := h; subst h; exact ⟨by decide, h0.2.2⟩
  | cons u r => exact ⟨h.1.2, h.2.2.2.2.1⟩
theorem ct_x {X X' : Nat → Nat → Int32} {w : ro_w} {sg g : Nat} : ∀ {ts : List gK} {t : Nat}, ct_ X w sg g ts t → (∀ b i, 5 ≤ b → b ≤ 9 → i ≤ t → X' b i = X b i) → ct_ X' w sg g ts t
  | [], _, h, _ => h
  | u :: r, t, ⟨a1, a2, a3, a4, ⟨M, a5, a6⟩, t', a7, a8, a9⟩, e => ⟨a1, (e 5 t (by decide) (by decide) (Nat.le_refl _)).trans a2, fun z => (e 6 t (by decide) (by decide) (Nat.le_refl _)).trans (a3 z), fun z => (e 7 t (by decide) (by decide) (Nat.le_refl _)).trans (a4 z), ⟨M, (e 9 t (by decide) (by decide) (Nat.le_refl _)).trans a5, a6⟩, t', a7, (e 8 t (by decide) (by decide) (Nat.le_refl _)).trans a8, ct_x a9 (fun b i h1 h2 h3 => e b i h1 h2 (by omega))⟩
/-- one task more -/
def pu_ (X : Nat → Nat → Int32) (m : Nat) (s k v r q : Int32) : Nat → Nat → Int32 := xu (xu (xu (xu (xu (xu X 5 m s) 6 m k) 7 m v) 8 m r) 9 m q) 4 6 (nI (m + 1))
def pq_ (m : Nat) (X X' : Nat → Nat → Int32) : Prop := ∀ b i : Nat, (b < 4 ∨ 9 < b ∨ (b = 4 ∧ i ≠ 6) ∨ (5 ≤ b ∧ b ≤ 9 ∧ i < m)) → X' b i = X b i
theorem pu_pq {X : Nat → Nat → Int32} {m : Nat} {s k v r q : Int32} : pq_ m X (pu_ X m s k v r q) := fun b i h => by
  unfold pu_
  rw [xu_z (by omega), xu_z (by omega), xu_z (by omega), xu_z (by omega), xu_z (by omega), xu_z (by omega)]
theorem pq_.rf {m : Nat} {X : Nat → Nat → Int32} : pq_ m X X := fun _ _ _ => rfl
theorem pq_.tr {m m' : Nat} {X X1 X2 : Nat → Nat → Int32} (a : pq_ m X X1) (b : pq_ m' X1 X2) (h : m ≤ m') : pq_ m X X2 := fun p q z => (b p q (by omega)).trans (a p q z)
theorem pu_ct {X : Nat → Nat → Int32} {w : ro_w} {sg g m t M : Nat} {u : gK} {r : List gK} {k v : Int32} (h : ct_ X w sg g r t) (ht : t < m) (hm : m < 128) (hk : u.1 ≤ 3 → k = nI u.2.1) (hv : u.1 = 4 ∨ u.1 = 5 ∨ u.1 = 7 → v = nI u.2.2) (hM : mp_ w sg g (u :: r) M) : ct_ (pu_ X m (nI (if u.1 = 7 then 4 else u.1)) k v (nI t) (nI M)) w sg g (u :: r) m := by
  refine ⟨⟨by omega, hm⟩, ?_, fun z => ?_, fun z => ?_, ⟨M, ?_, hM⟩, t, ht, ?_, ct_x h (fun b i h1 h2 h3 => pu_pq b i (by omega))⟩
  · unfold pu_
    rw [xu_a (by decide), xu_a (by decide), xu_a (by decide), xu_a (by decide), xu_a (by decide)]; exact xu_s
  · rw [← hk z]; unfold pu_
    rw [xu_a (by decide), xu_a (by decide), xu_a (by decide), xu_a (by decide)]; exact xu_s
  · rw [← hv z]; unfold pu_
    rw [xu_a (by decide), xu_a (by decide), xu_a (by decide)]; exact xu_s
  · unfold pu_
    rw [xu_a (by decide)]; exact xu_s
  · unfold pu_
    rw [xu_a (by decide), xu_a (by decide)]; exact xu_s
/-- the draft -/
def dr_ (X : Nat → Nat → Int32) (fs vs : List Nat) (c : Nat) : Prop := (X 25 2 = nI fs.length ∧ X 25 3 = nI (sn_ fs) ∧ X 25 4 = nI vs.length ∧ X 25 5 = nI c) ∧ (∀ i, i < fs.length → X 26 i = nI (fs.getD i 0)) ∧ ∀ i, i < vs.length → X 27 i = nI (vs.getD i 0)
theorem dr_x {X X' : Nat → Nat → Int32} {fs vs : List Nat} {c : Nat} (h : dr_ X fs vs c) (e : ∀ b i, (b = 25 ∨ (b = 26 ∧ i < fs.length) ∨ (b = 27 ∧ i < vs.length)) → X' b i = X b i) : dr_ X' fs vs c := ⟨⟨(e _ _ (Or.inl rfl)).trans h.1.1, (e _ _ (Or.inl rfl)).trans h.1.2.1, (e _ _ (Or.inl rfl)).trans h.1.2.2.1, (e _ _ (Or.inl rfl)).trans h.1.2.2.2⟩, fun i hi => (e _ _ (Or.inr (Or.inl ⟨rfl, hi⟩))).trans (h.2.1 i hi), fun i hi => (e _ _ (Or.inr (Or.inr ⟨rfl, hi⟩))).trans (h.2.2 i hi)⟩
theorem gd_l {l : List Nat} {v i : Nat} (h : i < l.length) : (l ++ [v]).getD i 0 = l.getD i 0 := by
  rw [List.getD_eq_getElem?_getD, List.getD_eq_getElem?_getD, List.getElem?_append_left h]
theorem gd_e {l : List Nat} {v : Nat} : (l ++ [v]).getD l.length 0 = v := by
  rw [List.getD_eq_getElem?_getD, List.getElem?_append_right (Nat.le_refl _), Nat.sub_self]
  rfl
theorem dr_take {X : Nat → Nat → Int32} {fs vs : List Nat} {c v : Nat} (h : dr_ X fs vs c) : dr_ (xu (xu X 27 vs.length (nI v)) 25 4 (nI (vs.length + 1))) fs (vs ++ [v]) c := by
  obtain ⟨⟨a1, a2, a3, a4⟩, b, d⟩ := h
  refine ⟨⟨?_, ?_, ?_, ?_⟩, fun i hi => ?_, fun i hi => ?_⟩
  · rw [xu_i (by decide), xu_a (by decide)]; exact a1
  · rw [xu_i (by decide), xu_a (by decide)]; exact a2
  · rw [List.length_append]; exact xu_s
  · rw [xu_i (by decide), xu_a (by decide)]; exact a4
  · rw [xu_a (by decide), xu_a (by decide)]; exact b i hi
  · rw [List.length_append] at hi
    have hi : i < vs.length + 1 := hi
    rw [xu_a (by decide)]
    by_cases e : i = vs.length
    · subst e; rw [xu_s, gd_e]
    · rw [xu_i e, gd_l (by omega)]; exact d i (by omega)
theorem dr_tell {X : Nat → Nat → Int32} {fs vs : List Nat} {c f : Nat} (h : dr_ X fs vs c) : dr_ (xu (xu (xu X 26 fs.length (nI f)) 25 2 (nI (fs.length + 1))) 25 3 (nI (sn_ fs + wt_ f))) (fs ++ [f]) vs c := by
  obtain ⟨⟨a1, a2, a3, a4⟩, b, d⟩ := h
  have es : sn_ (fs ++ [f]) = sn_ fs + wt_ f := by rw [sn_app]
  refine ⟨⟨?_, ?_, ?_, ?_⟩, fun i hi => ?_, fun i hi => ?_⟩
  · rw [List.length_append, xu_i (by decide)]; exact xu_s
  · rw [es]; exact xu_s
  · rw [xu_i (by decide), xu_i (by decide), xu_a (by decide)]; exact a3
  · rw [xu_i (by decide), xu_i (by decide), xu_a (by decide)]; exact a4
  · rw [List.length_append] at hi
    have hi : i < fs.length + 1 := hi
    rw [xu_a (by decide), xu_a (by decide)]
    by_cases e : i = fs.length
    · subst e; rw [xu_s, gd_e]
    · rw [xu_i e, gd_l (by omega)]; exact b i (by omega)
  · rw [xu_a (by decide), xu_a (by decide), xu_a (by decide)]; exact d i hi
/-- what a choice leaves as it was: m tasks, n forms, p values -/
def rx_ (m n p : Nat) (X X' : Nat → Nat → Int32) : Prop := ∀ b i : Nat, (b < 3 ∨ (b = 3 ∧ i ≠ 10) ∨ (b = 4 ∧ i ≠ 6) ∨ (5 ≤ b ∧ b ≤ 9 ∧ i < m) ∨ (10 ≤ b ∧ b ≤ 24) ∨ (b = 25 ∧ (i < 2 ∨ 5 < i)) ∨ (b = 26 ∧ i < n) ∨ (b = 27 ∧ i < p) ∨ 27 < b) → X' b i = X b i
theorem rx_.rf {m n p : Nat} {X : Nat → Nat → Int32} : rx_ m n p X X := fun _ _ _ => rfl
theorem rx_.tr {m n p m' n' p' : Nat} {X X1 X2 : Nat → Nat → Int32} (a : rx_ m n p X X1) (b : rx_ m' n' p' X1 X2) (h1 : m ≤ m') (h2 : n ≤ n') (h3 : p ≤ p') : rx_ m n p X X2 := fun b' i z => (b b' i (by omega)).trans (a b' i z)
theorem pq_.rx {m n p : Nat} {X X' : Nat → Nat → Int32} (h : pq_ m X X') : rx_ m n p X X' := fun b i z => h b i (by omega)
theorem rx_take {m n p : Nat} {X : Nat → Nat → Int32} {v u : Int32} : rx_ m n p X (xu (xu X 27 p v) 25 4 u) := fun b i z => by rw [xu_z (by omega), xu_z (by omega)]
theorem rx_tell {m n p : Nat} {X : Nat → Nat → Int32} {v u t : Int32} : rx_ m n p X (xu (xu (xu X 26 n v) 25 2 u) 25 3 t) := fun b i z => by rw [xu_z (by omega), xu_z (by omega), xu_z (by omega)]
/-- all that reading a voice's row stands on -/
def rq_ (X : Nat → Nat → Int32) (w : ro_w) (sg a dt : Nat) (E U P H PL RS CO AL LI : Nat → Nat) : Prop := spf_ X w sg (gd_ sg) dt E U P H PL RS CO AL LI ∧ c0_ X w sg (gd_ sg) ∧ vw_ X a w ∧ vs_ X a sg
theorem rq_x {X X' : Nat → Nat → Int32} {w : ro_w} {sg a dt : Nat} {E U P H PL RS CO AL LI : Nat → Nat} (h : rq_ X w sg a dt E U P H PL RS CO AL LI) (hva : vA a) (e : ∀ b i, ((5 ≤ b ∧ b ≤ 9 ∧ i = 0) ∨ (10 ≤ b ∧ b ≤ 19) ∨ (35 < b ∧ ¬ (∃ j, b = a + j ∧ (j = 2 ∨ (j = 0 ∧ 4 < i))))) → X' b i = X b i) : rq_ X' w sg a dt E U P H PL RS CO AL LI := by
  obtain ⟨⟨s1, s2, s3, s4, s5⟩, ⟨c1, c2, M, c3, c4⟩, hw, hs⟩ := h
  have hge := vA_ge hva
  refine ⟨⟨sp_x s1 (fun b i z => e b i (by omega)), s2, s3, (e _ _ (by omega)).trans s4, (e _ _ (by omega)).trans s5⟩, ⟨(e _ _ (by omega)).trans c1, (e _ _ (by omega)).trans c2, M, (e _ _ (by omega)).trans c3, c4⟩, vw_s hw (fun b i z => e b i (Or.inr (Or.inr ⟨by omega, fun ⟨j, h1, h2⟩ => by omega⟩))), vs_s hs (fun b i z => e b i (Or.inr (Or.inr ⟨by omega, fun ⟨j, h1, h2⟩ => by omega⟩)))⟩
theorem rx_.q {X X' : Nat → Nat → Int32} {w : ro_w} {sg a dt m n p : Nat} {E U P H PL RS CO AL LI : Nat → Nat} (h : rx_ m n p X X') (hm : 1 ≤ m) (hva : vA a) (hq : rq_ X w sg a dt E U P H PL RS CO AL LI) : rq_ X' w sg a dt E U P H PL RS CO AL LI := rq_x hq hva (fun b i z => h b i (by omega))
theorem rx_.ct {X X' : Nat → Nat → Int32} {w : ro_w} {sg g m n p t : Nat} {ts : List gK} (h : rx_ m n p X X') (ht : t < m) (hc : ct_ X w sg g ts t) : ct_ X' w sg g ts t := ct_x hc (fun b i h1 h2 h3 => h b i (by omega))
