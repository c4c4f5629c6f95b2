section BR2
variable {w : ro_w} {sg g : Nat}
theorem kk_app {ts us : List gK} (h1 : kk_ ts) (h2 : kk_ us) : kk_ (ts ++ us) := fun t ht => by
  rcases List.mem_append.mp ht with h | h
  · exact h1 t h
  · exact h2 t h
theorem kk_tl {t : gK} {ts : List gK} (h : kk_ (t :: ts)) : kk_ ts := fun x hx => h x (List.mem_cons_of_mem _ hx)
theorem kk_dvn {ts : List gK} (h : kk_ ts) : kk_ (dvn ts).2 := fun t ht => h t (dvn_mem ts t ht)
/-- the body of a task's step, over what the rest gives -/
def Bb (w : ro_w) (sg g : Nat) (K : List gK → Nat → List gL) (t : gK) (r : List gK) (p : Nat) : List gL :=
  if t.1 = 1 ∨ t.1 = 2 ∨ t.1 = 3 then (fs_ t.1).flatMap (fun f => if hd_ w sg g t.2.1 f p = true then (K (ts_ sg t.2.1 f ++ r) (p + (iv_ sg t.2.1 f).length)).map (lp_ f f (iv_ sg t.2.1 f)) else [])
    else if t.1 = 4 then (if al_ w p t.2.1 = true then (K r (p + 1)).map (lt_ [t.2.2]) else [])
    else if t.1 = 7 then (if li_ w p t.2.1 = true then (K r (p + 1)).map (lt_ [t.2.2]) else [])
    else if t.1 = 5 then (if do_ w p t.2.1 = true then (K r (p + 2)).map (lt_ [t.2.2, 0]) else [])
    else if t.1 = 6 then (if ro_dot w p = true then (K (dvn (t :: r)).2 (p + 1)).map (lc_ (dvn (t :: r)).1) else K (dvn (t :: r)).2 p)
    else []
theorem B1_S {row : Nat → List gL} {m : Nat} {t : gK} {r : List gK} {p : Nat} : B1 w sg g row (m + 1) (t :: r) p = Bb w sg g (B1 w sg g row m) t r p := rfl
theorem Bb_congr {K K' : List gK → Nat → List gL} {t : gK} {r : List gK} {p : Nat} (h1 : (t.1 = 1 ∨ t.1 = 2 ∨ t.1 = 3) → ∀ f ∈ fs_ t.1, hd_ w sg g t.2.1 f p = true → K (ts_ sg t.2.1 f ++ r) (p + (iv_ sg t.2.1 f).length) = K' (ts_ sg t.2.1 f ++ r) (p + (iv_ sg t.2.1 f).length)) (h2 : (t.1 = 4 ∨ t.1 = 7) → K r (p + 1) = K' r (p + 1)) (h3 : t.1 = 5 → K r (p + 2) = K' r (p + 2)) (h4 : t.1 = 6 → (ro_dot w p = true → K (dvn (t :: r)).2 (p + 1) = K' (dvn (t :: r)).2 (p + 1)) ∧ (ro_dot w p = false → K (dvn (t :: r)).2 p = K' (dvn (t :: r)).2 p)) : Bb w sg g K t r p = Bb w sg g K' t r p := by
  unfold Bb
  by_cases c1 : t.1 = 1 ∨ t.1 = 2 ∨ t.1 = 3
  · rw [if_pos c1, if_pos c1]
    apply fm_congr
    intro f hf
    by_cases hh : hd_ w sg g t.2.1 f p = true
    · rw [if_pos hh, if_pos hh, h1 c1 f hf hh]
    · rw [if_neg hh, if_neg hh]
  rw [if_neg c1, if_neg c1]
  by_cases c4 : t.1 = 4
  · rw [if_pos c4, if_pos c4, h2 (Or.inl c4)]
  rw [if_neg c4, if_neg c4]
  by_cases c7 : t.1 = 7
  · rw [if_pos c7, if_pos c7, h2 (Or.inr c7)]
  rw [if_neg c7, if_neg c7]
  by_cases c5 : t.1 = 5
  · rw [if_pos c5, if_pos c5, h3 c5]
  rw [if_neg c5, if_neg c5]
  by_cases c6 : t.1 = 6
  · rw [if_pos c6, if_pos c6]
    by_cases hd : ro_dot w p = true
    · rw [if_pos hd, if_pos hd, (h4 c6).1 hd]
    · rw [if_neg hd, if_neg hd, (h4 c6).2 (by simpa using hd)]
  rw [if_neg c6, if_neg c6]
theorem ts_wts' {t : gK} {r : List gK} {f : Nat} (hs : t.1 = 1 ∨ t.1 = 2 ∨ t.1 = 3) (hf : f ∈ fs_ t.1) (hk : kk_ (t :: r)) : wts (ts_ sg t.2.1 f ++ r) < wts (t :: r) := by
  have := ts_wts (sg := sg) hs hf (show t.2.1 ≤ 7 by have := hk t List.mem_cons_self; omega)
  rw [wts_app, wts_cons]
  omega
theorem B1_ir {row : Nat → List gL} : ∀ (m m' : Nat) (ts : List gK) (p : Nat), kk_ ts → wts ts ≤ m → wts ts ≤ m' → B1 w sg g row m ts p = B1 w sg g row m' ts p := by
  intro m
  induction m with
  | zero =>
    intro m' ts p hk h1 h2
    cases ts with
    | nil => cases m' <;> rfl
    | cons t r => rw [wts_cons] at h1; have := wk_pos t; omega
  | succ m ih =>
    intro m' ts p hk h1 h2
    cases ts with
    | nil => cases m' <;> rfl
    | cons t r =>
      cases m' with
      | zero => rw [wts_cons] at h2; have := wk_pos t; omega
      | succ m' =>
        have hr : wts r < wts (t :: r) := by rw [wts_cons]; have := wk_pos t; omega
        rw [B1_S, B1_S]
        apply Bb_congr
        · intro hs f hf hh
          have h3 := ts_wts' (sg := sg) hs hf hk
          exact ih m' _ _ (kk_app (ts_kk (hk t List.mem_cons_self) hh) (kk_tl hk)) (by omega) (by omega)
        · intro _; exact ih m' _ _ (kk_tl hk) (by omega) (by omega)
        · intro _; exact ih m' _ _ (kk_tl hk) (by omega) (by omega)
        · intro h6
          have h3 := dvn_lt (ts := r) h6
          exact ⟨fun _ => ih m' _ _ (kk_dvn hk) (by omega) (by omega), fun _ => ih m' _ _ (kk_dvn hk) (by omega) (by omega)⟩
theorem Bt_nil {row : Nat → List gL} {p : Nat} : Bt w sg g row [] p = row p := rfl
theorem Bt_cons {row : Nat → List gL} {t : gK} {r : List gK} {p : Nat} (hk : kk_ (t :: r)) : Bt w sg g row (t :: r) p = Bb w sg g (Bt w sg g row) t r p := by
  have hr : wts r < wts (t :: r) := by rw [wts_cons]; have := wk_pos t; omega
  conv => lhs; unfold Bt
  rw [show wts (t :: r) = (wts (t :: r) - 1) + 1 from by omega, B1_S]
  apply Bb_congr
  · intro hs f hf hh
    have h3 := ts_wts' (sg := sg) hs hf hk
    exact B1_ir _ _ _ _ (kk_app (ts_kk (hk t List.mem_cons_self) hh) (kk_tl hk)) (by omega) (Nat.le_refl _)
  · intro _; exact B1_ir _ _ _ _ (kk_tl hk) (by omega) (Nat.le_refl _)
  · intro _; exact B1_ir _ _ _ _ (kk_tl hk) (by omega) (Nat.le_refl _)
  · intro h6
    have h3 := dvn_lt (ts := r) h6
    exact ⟨fun _ => B1_ir _ _ _ _ (kk_dvn hk) (by omega) (Nat.le_refl _), fun _ => B1_ir _ _ _ _ (kk_dvn hk) (by omega) (Nat.le_refl _)⟩
/-- a way to show things of all chains: by what they weigh -/
theorem ch_ind {M : List gK → Nat → Prop} (h0 : ∀ p, M [] p) (hs : ∀ t r p, kk_ (t :: r) → (∀ ts q, wts ts < wts (t :: r) → kk_ ts → M ts q) → M (t :: r) p) : ∀ ts p, kk_ ts → M ts p := by
  have key : ∀ n ts p, wts ts ≤ n → kk_ ts → M ts p := by
    intro n
    induction n with
    | zero =>
      intro ts p h hk
      cases ts with
      | nil => exact h0 p
      | cons t r => rw [wts_cons] at h; have := wk_pos t; omega
    | succ n ih =>
      intro ts p h hk
      cases ts with
      | nil => exact h0 p
      | cons t r => exact hs t r p hk (fun ts q h2 hk2 => ih ts q (by omega) hk2)
  intro ts p hk
  exact key (wts ts) ts p (Nat.le_refl _) hk
theorem Bt_weak {row row' : Nat → List gL} : ∀ ts p, kk_ ts → ((∀ q, p ≤ q → row q = row' q) → Bt w sg g row ts p = Bt w sg g row' ts p) := by
  apply ch_ind (M := fun ts p => (∀ q, p ≤ q → row q = row' q) → Bt w sg g row ts p = Bt w sg g row' ts p)
  · intro p h; exact h p (Nat.le_refl _)
  · intro t r p hk ih h
    have hr : wts r < wts (t :: r) := by rw [wts_cons]; have := wk_pos t; omega
    rw [Bt_cons hk, Bt_cons hk]
    apply Bb_congr
    · intro hs f hf hh
      exact ih _ _ (ts_wts' hs hf hk) (kk_app (ts_kk (hk t List.mem_cons_self) hh) (kk_tl hk)) (fun q hq => h q (by omega))
    · intro _; exact ih _ _ hr (kk_tl hk) (fun q hq => h q (by omega))
    · intro _; exact ih _ _ hr (kk_tl hk) (fun q hq => h q (by omega))
    · intro h6
      exact ⟨fun _ => ih _ _ (dvn_lt h6) (kk_dvn hk) (fun q hq => h q (by omega)), fun _ => ih _ _ (dvn_lt h6) (kk_dvn hk) (fun q hq => h q (by omega))⟩
theorem dvn_keep : ∀ ts (t : gK), t ∈ ts → t.1 ≠ 6 → t ∈ (dvn ts).2
  | [], t, h, _ => h
  | x :: ts, t, h, hn => by
    unfold dvn
    split
    · next h6 =>
      rcases List.mem_cons.mp h with e | e
      · subst e; exact absurd h6 hn
      · exact dvn_keep ts t e hn
    · exact h
theorem Bt_strict {row row' : Nat → List gL} : ∀ ts p, kk_ ts → ((∃ t ∈ ts, t.1 = 1 ∨ t.1 = 2 ∨ t.1 = 3) → (∀ q, p < q → row q = row' q) → Bt w sg g row ts p = Bt w sg g row' ts p) := by
  apply ch_ind (M := fun ts p => (∃ t ∈ ts, t.1 = 1 ∨ t.1 = 2 ∨ t.1 = 3) → (∀ q, p < q → row q = row' q) → Bt w sg g row ts p = Bt w sg g row' ts p)
  · intro p h; obtain ⟨t, ht, -⟩ := h; cases ht
  · intro t r p hk ih hx h
    have hr : wts r < wts (t :: r) := by rw [wts_cons]; have := wk_pos t; omega
    rw [Bt_cons hk, Bt_cons hk]
    apply Bb_congr
    · intro hs f hf hh
      rcases hd_len hh with h0 | ⟨h0, h1⟩
      · obtain ⟨t', ts', e, ht'⟩ := ts_head h0 hh
        rw [h0]
        exact ih _ _ (ts_wts' hs hf hk) (kk_app (ts_kk (hk t List.mem_cons_self) hh) (kk_tl hk)) ⟨t', by rw [e]; exact List.mem_append_left _ List.mem_cons_self, ht'⟩ (fun q hq => h q hq)
      · exact Bt_weak _ _ (kk_app (ts_kk (hk t List.mem_cons_self) hh) (kk_tl hk)) (fun q hq => h q (by omega))
    · intro _; exact Bt_weak _ _ (kk_tl hk) (fun q hq => h q (by omega))
    · intro _; exact Bt_weak _ _ (kk_tl hk) (fun q hq => h q (by omega))
    · intro h6
      refine ⟨fun _ => Bt_weak _ _ (kk_dvn hk) (fun q hq => h q (by omega)), fun _ => ih _ _ (dvn_lt h6) (kk_dvn hk) ?_ (fun q hq => h q hq)⟩
      obtain ⟨t', ht', hs'⟩ := hx
      exact ⟨t', dvn_keep _ t' ht' (by omega), hs'⟩
/-- the row at place p, over what comes behind -/
def Bi (w : ro_w) (sg g : Nat) (row : Nat → List gL) (ch p : Nat) : List gL := match ic_ w g ch p with
    | none => []
    | some k => if hd_ w sg g k (if_ ch) p = true then (Bt w sg g row (ts_ sg k (if_ ch)) (p + (iv_ sg k (if_ ch)).length)).map (lp_ ch (if_ ch) (iv_ sg k (if_ ch))) else []
theorem ic_le {ch p k : Nat} (h : ic_ w g ch p = some k) : k ≤ g := by
  unfold ic_ at h
  repeat' split at h
  all_goals first | (cases h; done) | (cases h; omega) | (cases h; exact Nat.le_refl _)
theorem Bi_congr {row row' : Nat → List gL} {ch p : Nat} (hg : g ≤ 6) (h : ∀ q, p < q → row q = row' q) : Bi w sg g row ch p = Bi w sg g row' ch p := by
  unfold Bi
  cases hi : ic_ w g ch p with
  | none => rfl
  | some k =>
    dsimp only
    have hk := ic_le hi
    by_cases hh : hd_ w sg g k (if_ ch) p = true
    · rw [if_pos hh, if_pos hh]
      congr 1
      rcases hd_len hh with h0 | ⟨h0, h1⟩
      · obtain ⟨t', ts', e, ht'⟩ := ts_head h0 hh
        rw [h0]
        exact Bt_strict _ _ (ts_kk (by omega) hh) ⟨t', by rw [e]; exact List.mem_cons_self, ht'⟩ h
      · exact Bt_weak _ _ (ts_kk (by omega) hh) (fun q hq => h q (by omega))
    · rw [if_neg hh, if_neg hh]
theorem Brf_S {n p : Nat} : Brf w sg g (n + 1) p = if w.1 ≤ p then [([], ([], []), 1)] else (List.range' 1 18).flatMap (fun ch => Bi w sg g (Brf w sg g n) ch p) := rfl
theorem Brf_ir (hg : g ≤ 6) : ∀ (n m p : Nat), w.1 - p ≤ n → w.1 - p ≤ m → Brf w sg g n p = Brf w sg g m p := by
  intro n
  induction n with
  | zero =>
    intro m p h1 h2
    cases m with
    | zero => rfl
    | succ m =>
      rw [Brf_S, if_pos (by omega)]
      show (if w.1 ≤ p then _ else _) = _
      rw [if_pos (by omega)]
  | succ n ih =>
    intro m p h1 h2
    by_cases hp : w.1 ≤ p
    · rw [Brf_S, if_pos hp]
      cases m with
      | zero => show _ = (if w.1 ≤ p then _ else _); rw [if_pos hp]
      | succ m => rw [Brf_S, if_pos hp]
    · cases m with
      | zero => omega
      | succ m =>
        rw [Brf_S, Brf_S, if_neg hp, if_neg hp]
        apply fm_congr
        intro ch _
        exact Bi_congr hg (fun q hq => ih m q (by omega) (by omega))
theorem Br_end {p : Nat} (h : w.1 ≤ p) : Br w sg g p = [([], ([], []), 1)] := by
  unfold Br
  rw [show w.1 - p = 0 from by omega]
  show (if w.1 ≤ p then _ else _) = _
  rw [if_pos h]
theorem Br_eq (hg : g ≤ 6) {p : Nat} (h : p < w.1) : Br w sg g p = (List.range' 1 18).flatMap (fun ch => Bi w sg g (Br w sg g) ch p) := by
  conv => lhs; unfold Br
  rw [show w.1 - p = (w.1 - p - 1) + 1 from by omega, Brf_S, if_neg (by omega)]
  apply fm_congr
  intro ch _
  exact Bi_congr hg (fun q hq => Brf_ir hg _ _ q (by omega) (Nat.le_refl _))
end BR2
