/-! how many choices, forms, tasks there can be -/
section OK2
variable {w : ro_w} {sg g : Nat}
def nc1 (t : gK) : Nat := if t.1 = 1 ∨ t.1 = 2 ∨ t.1 = 3 then 1 else 0
def cn1 (t : gK) : Nat := if t.1 = 6 then 0 else 1
def cw1 (t : gK) : Nat := if t.1 = 6 then 0 else if t.1 = 1 ∨ t.1 = 3 then 1 else 2
def nc_ (ts : List gK) : Nat := (ts.map nc1).sum
def cn_ (ts : List gK) : Nat := (ts.map cn1).sum
def cw_ (ts : List gK) : Nat := (ts.map cw1).sum
theorem nc_cons (t : gK) (ts : List gK) : nc_ (t :: ts) = nc1 t + nc_ ts := by unfold nc_; rw [List.map_cons, List.sum_cons]
theorem cn_cons (t : gK) (ts : List gK) : cn_ (t :: ts) = cn1 t + cn_ ts := by unfold cn_; rw [List.map_cons, List.sum_cons]
theorem cw_cons (t : gK) (ts : List gK) : cw_ (t :: ts) = cw1 t + cw_ ts := by unfold cw_; rw [List.map_cons, List.sum_cons]
theorem nc_app (ts us : List gK) : nc_ (ts ++ us) = nc_ ts + nc_ us := by unfold nc_; rw [List.map_append, List.sum_append]
theorem cn_app (ts us : List gK) : cn_ (ts ++ us) = cn_ ts + cn_ us := by unfold cn_; rw [List.map_append, List.sum_append]
theorem cw_app (ts us : List gK) : cw_ (ts ++ us) = cw_ ts + cw_ us := by unfold cw_; rw [List.map_append, List.sum_append]
theorem cs_dvn : ∀ ts, nc_ (dvn ts).2 = nc_ ts ∧ cn_ (dvn ts).2 = cn_ ts ∧ cw_ (dvn ts).2 = cw_ ts
  | [] => ⟨rfl, rfl, rfl⟩
  | t :: ts => by
    unfold dvn
    split
    · next h =>
      have e1 : nc1 t = 0 := by unfold nc1; rw [if_neg (by omega)]
      have e2 : cn1 t = 0 := by unfold cn1; rw [if_pos h]
      have e3 : cw1 t = 0 := by unfold cw1; rw [if_pos h]
      rw [nc_cons, cn_cons, cw_cons, e1, e2, e3, Nat.zero_add, Nat.zero_add, Nat.zero_add]
      exact cs_dvn ts
    · exact ⟨rfl, rfl, rfl⟩
theorem cs_dv {k : Nat} : nc_ (dv_ sg k) = 0 ∧ cn_ (dv_ sg k) = 0 ∧ cw_ (dv_ sg k) = 0 := by
  unfold dv_
  split <;> exact ⟨rfl, rfl, rfl⟩
theorem cs_ts {k f : Nat} : nc_ (ts_ sg k f) = nc_ (t0_ sg k f) ∧ cn_ (ts_ sg k f) = cn_ (t0_ sg k f) ∧ cw_ (ts_ sg k f) = cw_ (t0_ sg k f) := by
  unfold ts_
  rw [nc_app, cn_app, cw_app]
  split
  · have := cs_dv (sg := sg) (k := k)
    rw [this.1, this.2.1, this.2.2]
    exact ⟨rfl, rfl, rfl⟩
  · exact ⟨rfl, rfl, rfl⟩
/-- what a form of sort s uses up -/
theorem cs_f {s k f : Nat} (hf : f ∈ fs_ s) : 1 ≤ (iv_ sg k f).length + cn_ (t0_ sg k f) ∧ 1 + cw1 (s, k, 0) ≤ 2 * (iv_ sg k f).length + cw_ (t0_ sg k f) ∨ ¬ (s = 1 ∨ s = 2 ∨ s = 3) := by
  by_cases c : s = 1 ∨ s = 2 ∨ s = 3
  · left
    rcases c with rfl | rfl | rfl
    · have hf : f ∈ ([1, 2, 3, 4, 5, 6, 7, 8, 9, 10, 11] : List Nat) := hf
      simp only [List.mem_cons, List.not_mem_nil, or_false] at hf
      rcases hf with rfl | rfl | rfl | rfl | rfl | rfl | rfl | rfl | rfl | rfl | rfl <;> exact ⟨Nat.le_of_ble_eq_true rfl, Nat.le_of_ble_eq_true rfl⟩
    · have hf : f ∈ ([13, 14, 15] : List Nat) := hf
      simp only [List.mem_cons, List.not_mem_nil, or_false] at hf
      rcases hf with rfl | rfl | rfl <;> exact ⟨Nat.le_of_ble_eq_true rfl, Nat.le_of_ble_eq_true rfl⟩
    · have hf : f ∈ ([16, 17] : List Nat) := hf
      simp only [List.mem_cons, List.not_mem_nil, or_false] at hf
      rcases hf with rfl | rfl <;> exact ⟨Nat.le_of_ble_eq_true rfl, Nat.le_of_ble_eq_true rfl⟩
  · exact Or.inr c
theorem cs_i {k f p : Nat} (hh : hd_ w sg g k f p = true) : 1 ≤ (iv_ sg k f).length + cn_ (t0_ sg k f) ∧ 1 ≤ 2 * (iv_ sg k f).length + cw_ (t0_ sg k f) := by
  by_cases c1 : f ∈ fs_ 1
  · rcases cs_f (sg := sg) (k := k) c1 with h | h
    · exact ⟨h.1, by omega⟩
    · omega
  by_cases c2 : f ∈ fs_ 2
  · rcases cs_f (sg := sg) (k := k) c2 with h | h
    · exact ⟨h.1, by omega⟩
    · omega
  by_cases c3 : f ∈ fs_ 3
  · rcases cs_f (sg := sg) (k := k) c3 with h | h
    · exact ⟨h.1, by omega⟩
    · omega
  by_cases c4 : f = 18
  · subst c4; exact ⟨Nat.le_of_ble_eq_true rfl, Nat.le_of_ble_eq_true rfl⟩
  · exfalso
    have c1 : f ∉ ([1, 2, 3, 4, 5, 6, 7, 8, 9, 10, 11] : List Nat) := c1
    have c2 : f ∉ ([13, 14, 15] : List Nat) := c2
    have c3 : f ∉ ([16, 17] : List Nat) := c3
    simp only [List.mem_cons, List.not_mem_nil, or_false, not_or] at c1 c2 c3
    have e : hd_ w sg g k f p = false := by
      unfold hd_
      rw [if_neg (by omega), if_neg (by omega), if_neg (by omega), if_neg (by omega), if_neg (by omega), if_neg (by omega), if_neg (by omega), if_neg (by omega), if_neg (by omega), if_neg (by omega), if_neg (by omega)]
    rw [e] at hh
    cases hh
def ok2 (c n u : Nat) (x : gL) : Prop := c ≤ x.1.length ∧ n ≤ x.2.1.2.length ∧ x.2.1.1.length + u ≤ 2 * x.2.1.2.length ∧ x.1.length ≤ x.2.1.1.length
theorem ok2_lp {c n u c' n' u' ch f : Nat} {iv : List Nat} {x : gL} (h : ok2 c' n' u' x) (hc : c ≤ c' + 1) (hn : n ≤ n' + iv.length) (hu : 1 + u ≤ 2 * iv.length + u') : ok2 c n u (lp_ ch f iv x) := by
  obtain ⟨h1, h2, h3, h4⟩ := h
  refine ⟨?_, ?_, ?_, ?_⟩
  · show c ≤ (ch :: x.1).length; rw [List.length_cons]; omega
  · show n ≤ (iv ++ x.2.1.2).length; rw [List.length_append]; omega
  · show (f :: x.2.1.1).length + u ≤ 2 * (iv ++ x.2.1.2).length
    rw [List.length_append, List.length_cons]; omega
  · show (ch :: x.1).length ≤ (f :: x.2.1.1).length
    rw [List.length_cons, List.length_cons]; omega
theorem Bt_ok2 {row : Nat → List gL} (hr : ∀ q, q ≤ w.1 → ∀ x ∈ row q, ok2 0 0 0 x) : ∀ ts p, kk_ ts → (p ≤ w.1 → ∀ x ∈ Bt w sg g row ts p, ok2 (nc_ ts) (cn_ ts) (cw_ ts) x) := by
  apply ch_ind (M := fun ts p => p ≤ w.1 → ∀ x ∈ Bt w sg g row ts p, ok2 (nc_ ts) (cn_ ts) (cw_ ts) x)
  · exact fun p hp => hr p hp
  · intro t r p hk ih hp x hx
    have hwr : wts r < wts (t :: r) := by rw [wts_cons]; have := wk_pos t; omega
    rw [Bt_cons hk] at hx
    unfold Bb at hx
    rw [nc_cons, cn_cons, cw_cons]
    by_cases c1 : t.1 = 1 ∨ t.1 = 2 ∨ t.1 = 3
    · rw [if_pos c1, List.mem_flatMap] at hx
      obtain ⟨f, hf, hx⟩ := hx
      by_cases hh : hd_ w sg g t.2.1 f p = true
      · rw [if_pos hh, List.mem_map] at hx
        obtain ⟨y, hy, rfl⟩ := hx
        have hle : p + (iv_ sg t.2.1 f).length ≤ w.1 := by
          rcases hd_len hh with h0 | ⟨-, h0⟩
          · rw [h0]; exact hp
          · exact h0
        have h1 := ih _ _ (ts_wts' c1 hf hk) (kk_app (ts_kk (hk t List.mem_cons_self) hh) (kk_tl hk)) hle y hy
        rw [nc_app, cn_app, cw_app] at h1
        have hq := (cs_f (sg := sg) (k := t.2.1) hf).resolve_right (fun z => z c1)
        have ht := cs_ts (sg := sg) (k := t.2.1) (f := f)
        rw [ht.1, ht.2.1, ht.2.2] at h1
        have e1 : nc1 t = 1 := by unfold nc1; rw [if_pos c1]
        have e2 : cn1 t = 1 := by unfold cn1; rw [if_neg (by omega)]
        have e3 : cw1 (t.1, t.2.1, 0) = cw1 t := rfl
        rw [e3] at hq
        rw [e1, e2]
        exact ok2_lp h1 (by omega) (by omega) (by omega)
      · rw [if_neg hh] at hx; cases hx
    rw [if_neg c1] at hx
    have e1 : nc1 t = 0 := by unfold nc1; rw [if_neg c1]
    rw [e1, Nat.zero_add]
    have tk : ∀ (b : Bool) (vs : List Nat), vs.length ≠ 0 → t.1 ≠ 6 → (b = true → p + vs.length ≤ w.1) → x ∈ (if b = true then (Bt w sg g row r (p + vs.length)).map (lt_ vs) else []) → ok2 (nc_ r) (cn1 t + cn_ r) (cw1 t + cw_ r) x := by
      intro b vs hvs h6 hb hx
      have e2 : cn1 t = 1 := by unfold cn1; rw [if_neg h6]
      have e3 : cw1 t ≤ 2 := by unfold cw1; split <;> (try split) <;> omega
      rw [e2]
      cases b
      · cases hx
      · rw [if_pos rfl, List.mem_map] at hx
        obtain ⟨y, hy, rfl⟩ := hx
        obtain ⟨a1, a2, a3, a4⟩ := ih _ _ hwr (kk_tl hk) (hb rfl) y hy
        refine ⟨a1, ?_, ?_, a4⟩
        · show _ ≤ (vs ++ y.2.1.2).length
          rw [List.length_append]; omega
        · show ([] ++ y.2.1.1).length + _ ≤ 2 * (vs ++ y.2.1.2).length
          rw [List.nil_append, List.length_append]; omega
    by_cases c4 : t.1 = 4
    · rw [if_pos c4] at hx
      exact tk (al_ w p t.2.1) [t.2.2] (show (1 : Nat) ≠ 0 by decide) (by omega) (fun h => by unfold al_ at h; simp at h; have := plain_lt h.1; exact this) hx
    rw [if_neg c4] at hx
    by_cases c7 : t.1 = 7
    · rw [if_pos c7] at hx
      exact tk (li_ w p t.2.1) [t.2.2] (show (1 : Nat) ≠ 0 by decide) (by omega) (fun h => by unfold li_ at h; simp at h; have := plain_lt h.1; exact this) hx
    rw [if_neg c7] at hx
    by_cases c5 : t.1 = 5
    · rw [if_pos c5] at hx
      exact tk (do_ w p t.2.1) [t.2.2, 0] (show (2 : Nat) ≠ 0 by decide) (by omega) (fun h => by unfold do_ at h; simp at h; have := dot_lt h.2; show p + 2 ≤ w.1; omega) hx
    rw [if_neg c5] at hx
    by_cases c6 : t.1 = 6
    · rw [if_pos c6] at hx
      have e := cs_dvn (t :: r)
      have e2 : cn1 t = 0 := by unfold cn1; rw [if_pos c6]
      have e3 : cw1 t = 0 := by unfold cw1; rw [if_pos c6]
      rw [nc_cons, cn_cons, cw_cons, e1, e2, e3, Nat.zero_add, Nat.zero_add, Nat.zero_add] at e
      rw [e2, e3, Nat.zero_add, Nat.zero_add]
      by_cases hd : ro_dot w p = true
      · rw [if_pos hd, List.mem_map] at hx
        obtain ⟨y, hy, rfl⟩ := hx
        have hlt := dot_lt hd
        obtain ⟨a1, a2, a3, a4⟩ := ih _ _ (dvn_lt c6) (kk_dvn hk) (show p + 1 ≤ w.1 by omega) y hy
        rw [e.1] at a1
        rw [e.2.1] at a2
        rw [e.2.2] at a3
        refine ⟨a1, ?_, ?_, ?_⟩
        · show _ ≤ ([0] ++ y.2.1.2).length
          rw [List.length_append]; omega
        · show (12 :: y.2.1.1).length + _ ≤ 2 * ([0] ++ y.2.1.2).length
          rw [List.length_append, List.length_cons]
          show _ ≤ 2 * (1 + _)
          omega
        · show y.1.length ≤ (12 :: y.2.1.1).length
          rw [List.length_cons]; omega
      · rw [if_neg hd] at hx
        have := ih _ _ (dvn_lt c6) (kk_dvn hk) hp x hx
        rw [e.1, e.2.1, e.2.2] at this
        exact this
    rw [if_neg c6] at hx
    cases hx
theorem Br_ok2 (hg : g ≤ 6) : ∀ n p, p + n = w.1 → ∀ x ∈ Br w sg g p, ok2 0 0 0 x := by
  intro n
  induction n using Nat.strongRecOn with
  | _ n ih =>
    intro p hn x hx
    by_cases hp : p < w.1
    · rw [Br_eq hg hp, List.mem_flatMap] at hx
      obtain ⟨ch, -, hx⟩ := hx
      rw [Bi_congr (row' := fun q => if p < q then Br w sg g q else []) hg (fun q hq => (if_pos hq).symm)] at hx
      unfold Bi at hx
      cases hi : ic_ w g ch p with
      | none => rw [hi] at hx; cases hx
      | some k =>
        rw [hi] at hx
        dsimp only at hx
        have hk := ic_le hi
        by_cases hh : hd_ w sg g k (if_ ch) p = true
        · rw [if_pos hh, List.mem_map] at hx
          obtain ⟨y, hy, rfl⟩ := hx
          have hle : p + (iv_ sg k (if_ ch)).length ≤ w.1 := by
            rcases hd_len hh with h0 | ⟨-, h0⟩
            · rw [h0]; exact Nat.le_of_lt hp
            · exact h0
          have h1 := Bt_ok2 (sg := sg) (g := g) (row := fun q => if p < q then Br w sg g q else []) (fun q hq x hx => by
            split at hx
            · exact ih (w.1 - q) (by omega) q (by omega) x hx
            · cases hx) _ _ (ts_kk (show k ≤ 6 by omega) hh) hle y hy
          have ht := cs_ts (sg := sg) (k := k) (f := if_ ch)
          rw [ht.1, ht.2.1, ht.2.2] at h1
          have := cs_i hh
          exact ok2_lp h1 (by omega) (by omega) (by omega)
        · rw [if_neg hh] at hx; cases hx
    · rw [Br_end (by omega), List.mem_singleton] at hx
      subst hx
      exact ⟨Nat.le_refl _, Nat.le_refl _, Nat.le_refl _, Nat.le_refl _⟩
theorem Br_ok2' (hg : g ≤ 6) : ∀ q, q ≤ w.1 → ∀ x ∈ Br w sg g q, ok2 0 0 0 x := fun q hq => Br_ok2 hg (w.1 - q) q (by omega)
/-- a form's tasks, counted -/
theorem len_ts {k f : Nat} : (ts_ sg k f).length ≤ cn_ (ts_ sg k f) + 1 := by
  have h0 : (t0_ sg k f).length = cn_ (t0_ sg k f) := by
    unfold t0_
    repeat' split
    all_goals rfl
  have hd : (dv_ sg k).length ≤ 1 := by unfold dv_; split <;> exact Nat.le_of_ble_eq_true rfl
  rw [(cs_ts (sg := sg) (k := k) (f := f)).2.1, ← h0]
  unfold ts_
  rw [List.length_append]
  split
  · omega
  · show _ + 0 ≤ _; omega
end OK2
