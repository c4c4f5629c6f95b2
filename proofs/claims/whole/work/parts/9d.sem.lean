/-! what leaves no choice: live chains; a node's choices -/
section SLV
variable {w : ro_w} {sg g : Nat}
/-- live, with room for the forms that are still to tell -/
def lr_ (w : ro_w) (sg g : Nat) (ts : List gK) (p n : Nat) : Prop := ∃ x ∈ Bt w sg g (Br w sg g) ts p, n + x.2.1.1.length ≤ 48
theorem sl_t {t : gK} {r : List gK} {p n : Nat} {b : Bool} {vs : List Nat} (e : Bb w sg g (Bt w sg g (Br w sg g)) t r p = (if b = true then (Bt w sg g (Br w sg g) r (p + vs.length)).map (lt_ vs) else [])) (hk : kk_ (t :: r)) (h : lr_ w sg g (t :: r) p n) : b = true ∧ lr_ w sg g r (p + vs.length) n := by
  obtain ⟨x, hx, hn⟩ := h
  rw [Bt_cons hk, e] at hx
  cases b
  · cases hx
  · rw [if_pos rfl, List.mem_map] at hx
    obtain ⟨y, hy, rfl⟩ := hx
    refine ⟨rfl, y, hy, ?_⟩
    have hn : n + ([] ++ y.2.1.1).length ≤ 48 := hn
    rw [List.nil_append] at hn
    exact hn
theorem sl_4 {t : gK} {r : List gK} {p n : Nat} (c4 : t.1 = 4 ∨ t.1 = 7) (hk : kk_ (t :: r)) (h : lr_ w sg g (t :: r) p n) : p < w.1 ∧ lr_ w sg g r (p + 1) n := by
  rcases c4 with c | c
  · obtain ⟨h1, h2⟩ := sl_t (b := al_ w p t.2.1) (vs := [t.2.2]) (by unfold Bb; rw [if_neg (by omega), if_pos c]; rfl) hk h
    unfold al_ at h1
    rw [Bool.and_eq_true] at h1
    exact ⟨plain_lt h1.1, h2⟩
  · obtain ⟨h1, h2⟩ := sl_t (b := li_ w p t.2.1) (vs := [t.2.2]) (by unfold Bb; rw [if_neg (by omega), if_neg (by omega), if_pos c]; rfl) hk h
    unfold li_ at h1
    rw [Bool.and_eq_true] at h1
    exact ⟨plain_lt h1.1, h2⟩
theorem sl_5 {t : gK} {r : List gK} {p n : Nat} (c : t.1 = 5) (hk : kk_ (t :: r)) (h : lr_ w sg g (t :: r) p n) : p + 1 < w.1 ∧ lr_ w sg g r (p + 2) n := by
  obtain ⟨h1, h2⟩ := sl_t (b := do_ w p t.2.1) (vs := [t.2.2, 0]) (by unfold Bb; rw [if_neg (by omega), if_neg (by omega), if_neg (by omega), if_pos c]; rfl) hk h
  unfold do_ at h1
  rw [Bool.and_eq_true] at h1
  exact ⟨dot_lt h1.2, h2⟩
theorem sl_6 {t : gK} {r : List gK} {p n : Nat} (c : t.1 = 6) (hk : kk_ (t :: r)) (h : lr_ w sg g (t :: r) p n) : (ro_dot w p = true → p < w.1 ∧ n < 48 ∧ lr_ w sg g (dvn (t :: r)).2 (p + 1) (n + 1)) ∧ (ro_dot w p = false → lr_ w sg g (dvn (t :: r)).2 p n) := by
  obtain ⟨x, hx, hn⟩ := h
  rw [Bt_cons hk] at hx
  unfold Bb at hx
  rw [if_neg (by omega), if_neg (by omega), if_neg (by omega), if_neg (by omega), if_pos c] at hx
  constructor
  · intro hd
    rw [if_pos hd, List.mem_map] at hx
    obtain ⟨y, hy, rfl⟩ := hx
    have hn : n + (12 :: y.2.1.1).length ≤ 48 := hn
    rw [List.length_cons] at hn
    exact ⟨dot_lt hd, by omega, y, hy, by omega⟩
  · intro hd
    rw [if_neg (by rw [hd]; decide)] at hx
    exact ⟨x, hx, hn⟩
theorem lr_ne {ts : List gK} {p n : Nat} (h : lr_ w sg g ts p n) : Bt w sg g (Br w sg g) ts p ≠ [] := by
  obtain ⟨x, hx, -⟩ := h
  intro e
  rw [e] at hx
  cases hx
/-- how many dots stand before a place -/
def nd2 (w : ro_w) : Nat → Nat
  | 0 => 0
  | p + 1 => nd2 w p + (if ro_dot w p = true then 1 else 0)
theorem nd2_le (h0 : ro_dot w 0 = false) (hd : ∀ q, ro_dot w q = true → ro_dot w (q + 1) = false) : ∀ p, 2 * nd2 w (p + 1) ≤ p + (if ro_dot w p = true then 1 else 0) := by
  intro p
  induction p using Nat.strongRecOn with
  | _ p ih =>
    cases p with
    | zero =>
      show 2 * (0 + (if ro_dot w 0 = true then 1 else 0)) ≤ _
      rw [h0]
      decide
    | succ p =>
      have e : nd2 w (p + 1 + 1) = nd2 w (p + 1) + (if ro_dot w (p + 1) = true then 1 else 0) := rfl
      have h1 := ih p (by omega)
      rw [e]
      by_cases c1 : ro_dot w p = true
      · rw [if_pos c1] at h1
        have c2 := hd p c1
        rw [c2]
        simp
        omega
      · rw [if_neg c1] at h1
        split <;> omega
theorem nd2_12 (h24 : w.1 ≤ 24) (h0 : ro_dot w 0 = false) (hd : ∀ q, ro_dot w q = true → ro_dot w (q + 1) = false) {p : Nat} (hp : p ≤ w.1) : nd2 w p ≤ 12 := by
  cases p with
  | zero => show 0 ≤ 12; omega
  | succ p =>
    have := nd2_le h0 hd p
    split at this <;> omega
theorem nd2_mono {p d : Nat} : nd2 w p ≤ nd2 w (p + d) := by
  induction d with
  | zero => exact Nat.le_refl _
  | succ d ih =>
    show nd2 w p ≤ nd2 w (p + d) + _
    omega
/-- the choices at a node, as masks tell them -/
theorem nd_mask {X : Nat → Nat → Int32} {dt : Nat} {E U P H PL RS CO AL LI : Nat → Nat} (hs : spf_ X w sg g dt E U P H PL RS CO AL LI) (hk : rk_ w sg g) {ts : List gK} {p ch k f M : Nat} (ht : wf_ g ts) (hn : nn_ w ts p) (hp : p < w.1) (hch : ch ∈ cl_ ts) (hkf : kf_ w g ts p ch = some (k, f)) (hM : mp_ w sg g (rt_ ts) M) : (k ≤ 6 ∧ f < 19) ∧ (E (eix k f p) &&& M ≠ 0 ↔ nd_ w sg g ts p ch ≠ []) := by
  have h24 := hk.1
  have hg4 := hk.2.1
  have key : k ≤ 6 ∧ f < 19 ∧ ((f ∈ un_f g k ∨ f ∈ pa_f g k ∨ f ∈ fs_ 3) ∨ ∀ m, ¬ enE w sg g k f p m) := by
    cases ts with
    | nil =>
      obtain ⟨a1, a2, a3⟩ := kf_al (sg := sg) hkf (cl_pos hch)
      exact ⟨by omega, by omega, a3.elim (fun z => Or.inl (z.elim Or.inl (fun y => Or.inr (Or.inl y)))) Or.inr⟩
    | cons t r =>
      have e0 := Option.some.inj (show some (t.2.1, ch) = some (k, f) from hkf)
      have e1 : t.2.1 = k := congrArg Prod.fst e0
      have e2 : ch = f := congrArg Prod.snd e0
      have hw := ht.1 t List.mem_cons_self
      have hch : ch ∈ fs_ t.1 := hch
      have := cl_pos (ts := t :: r) hch
      refine ⟨by have := hw.2.1; omega, by omega, Or.inl ?_⟩
      rw [← e2, ← e1]
      have hn : t.1 = 1 ∨ t.1 = 2 ∨ t.1 = 3 := hn
      rcases hn with c | c | c
      · left
        unfold un_f
        rw [if_neg (by have := hw.2.2.1 (by omega); omega), ← c]
        exact hch
      · right; left
        unfold pa_f
        rw [if_neg (by have := hw.2.2.1 (by omega); omega), ← c]
        exact hch
      · right; right
        rw [← c]
        exact hch
  obtain ⟨hk6, hf, hal⟩ := key
  refine ⟨⟨hk6, hf⟩, ?_⟩
  rw [nd_ne hk (wf_kk ht) (by omega) hkf hk6, mb_ne (mb_and (((hs.2.2.1 k p hk6 (by omega)).1 (by unfold cdn; omega)).1 f hf) hM.2)]
  constructor
  · rintro ⟨m, ⟨-, a1⟩, -, a2⟩
    exact ⟨m, a1, a2⟩
  · rintro ⟨m, a1, a2⟩
    have := en_lt a1
    rcases hal with hal | hal
    · exact ⟨m, ⟨hal, a1⟩, by omega, a2⟩
    · exact absurd a1 (hal m)
theorem nd_none {ts : List gK} {p ch : Nat} (h : kf_ w g ts p ch = none) : nd_ w sg g ts p ch = [] := by rw [nd_eq, h]
end SLV
