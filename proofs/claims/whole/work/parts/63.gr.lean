section BR4
variable {w : ro_w} {sg g : Nat}
/-- in order; the forms tell the values -/
def sd_ (L : List gL) : Prop := List.Pairwise (fun x y : gL => lx_ y.2.1.1 x.2.1.1 = false) L ∧ ∀ x ∈ L, ∀ y ∈ L, x.2.1.1 = y.2.1.1 → x.2.1 = y.2.1
theorem sd_nil : sd_ [] := ⟨List.Pairwise.nil, fun x hx => by cases hx⟩
theorem sd_map {L : List gL} {F : gL → gL} (h : sd_ L) (h1 : ∀ x y, lx_ (F y).2.1.1 (F x).2.1.1 = lx_ y.2.1.1 x.2.1.1) (h2 : ∀ x y, (F x).2.1.1 = (F y).2.1.1 → x.2.1.1 = y.2.1.1) (h3 : ∀ x y, x.2.1 = y.2.1 → (F x).2.1 = (F y).2.1) : sd_ (L.map F) := by
  constructor
  · rw [List.pairwise_map]
    exact h.1.imp (fun {x y} q => by rw [h1]; exact q)
  · intro x hx y hy e
    rw [List.mem_map] at hx hy
    obtain ⟨x, hx, rfl⟩ := hx
    obtain ⟨y, hy, rfl⟩ := hy
    exact h3 x y (h.2 x hx y hy (h2 x y e))
theorem sd_lp {L : List gL} {ch f : Nat} {iv : List Nat} (h : sd_ L) : sd_ (L.map (lp_ ch f iv)) := sd_map h (fun x y => lx_cons f _ _) (fun x y e => (List.cons.inj e).2) (fun x y e => by show gc _ x.2.1 = gc _ y.2.1; rw [e])
theorem sd_lt {L : List gL} {vs : List Nat} (h : sd_ L) : sd_ (L.map (lt_ vs)) := sd_map h (fun x y => rfl) (fun x y e => e) (fun x y e => by show gc _ x.2.1 = gc _ y.2.1; rw [e])
theorem sd_lc {L : List gL} {j : Nat} (h : sd_ L) : sd_ (L.map (lc_ j)) := sd_map h (fun x y => lx_cons 12 _ _) (fun x y e => (List.cons.inj e).2) (fun x y e => by show gc _ x.2.1 = gc _ y.2.1; rw [e])
/-- blocks that begin otherwise, in order -/
theorem sd_fm {l : List Nat} {F : Nat → List gL} {key : Nat → List Nat} (hk : List.Pairwise (fun a b => ∀ r r' : List Nat, lx_ (key b ++ r') (key a ++ r) = false ∧ key a ++ r ≠ key b ++ r') l) (h : ∀ f ∈ l, sd_ (F f) ∧ ∀ x ∈ F f, ∃ r, x.2.1.1 = key f ++ r) : sd_ (l.flatMap F) := by
  constructor
  · rw [List.pairwise_flatMap]
    refine ⟨fun f hf => (h f hf).1.1, hk.imp_of_mem ?_⟩
    intro a b ha hb q x hx y hy
    obtain ⟨r, e1⟩ := (h a ha).2 x hx
    obtain ⟨r', e2⟩ := (h b hb).2 y hy
    rw [e1, e2]
    exact (q r r').1
  · intro x hx y hy e
    rw [List.mem_flatMap] at hx hy
    obtain ⟨a, ha, hx⟩ := hx
    obtain ⟨b, hb, hy⟩ := hy
    by_cases hab : a = b
    · subst hab
      exact (h a ha).1.2 x hx y hy e
    · exfalso
      obtain ⟨r, e1⟩ := (h a ha).2 x hx
      obtain ⟨r', e2⟩ := (h b hb).2 y hy
      have key2 : ∀ l : List Nat, List.Pairwise (fun a b => ∀ r r' : List Nat, lx_ (key b ++ r') (key a ++ r) = false ∧ key a ++ r ≠ key b ++ r') l → a ∈ l → b ∈ l → a ≠ b → ∀ r r', key a ++ r ≠ key b ++ r' := by
        intro l
        induction l with
        | nil => intro _ ha; cases ha
        | cons c l ih =>
          intro hp ha hb hne r r'
          rw [List.pairwise_cons] at hp
          rcases List.mem_cons.mp ha with z | z
          · rcases List.mem_cons.mp hb with z2 | z2
            · exact absurd (z.trans z2.symm) hne
            · rw [z]; exact (hp.1 b z2 r r').2
          · rcases List.mem_cons.mp hb with z2 | z2
            · rw [z2]; exact fun q => (hp.1 a z r' r).2 q.symm
            · exact ih hp.2 z z2 hne r r'
      exact key2 l hk ha hb hab r r' (by rw [← e1, ← e2]; exact e)
theorem kl_ {a b : Nat} (h : a < b) (r r' : List Nat) : lx_ ([b] ++ r') ([a] ++ r) = false ∧ [a] ++ r ≠ [b] ++ r' := by
  constructor
  · show lx_ (b :: r') (a :: r) = false
    rw [lx_lt (by omega)]; simp; omega
  · intro e
    have := (List.cons.inj e).1
    omega
theorem Bt_sd {row : Nat → List gL} (hr : ∀ q, sd_ (row q)) : ∀ ts p, kk_ ts → sd_ (Bt w sg g row ts p) := by
  apply ch_ind (M := fun ts p => sd_ (Bt w sg g row ts p))
  · exact fun p => hr p
  · intro t r p hk ih
    have hwr : wts r < wts (t :: r) := by rw [wts_cons]; have := wk_pos t; omega
    rw [Bt_cons hk]
    unfold Bb
    by_cases c1 : t.1 = 1 ∨ t.1 = 2 ∨ t.1 = 3
    · rw [if_pos c1]
      apply sd_fm (key := fun f => [f])
      · have : List.Pairwise (· < ·) (fs_ t.1) := by
          unfold fs_
          split
          · decide
          · split <;> decide
        exact this.imp (fun {a b} h => kl_ h)
      · intro f hf
        by_cases hh : hd_ w sg g t.2.1 f p = true
        · rw [if_pos hh]
          refine ⟨sd_lp (ih _ _ (ts_wts' c1 hf hk) (kk_app (ts_kk (hk t List.mem_cons_self) hh) (kk_tl hk))), fun x hx => ?_⟩
          rw [List.mem_map] at hx
          obtain ⟨y, -, rfl⟩ := hx
          exact ⟨y.2.1.1, rfl⟩
        · rw [if_neg hh]
          exact ⟨sd_nil, fun x hx => by cases hx⟩
    rw [if_neg c1]
    by_cases c4 : t.1 = 4
    · rw [if_pos c4]; split
      · exact sd_lt (ih _ _ hwr (kk_tl hk))
      · exact sd_nil
    rw [if_neg c4]
    by_cases c7 : t.1 = 7
    · rw [if_pos c7]; split
      · exact sd_lt (ih _ _ hwr (kk_tl hk))
      · exact sd_nil
    rw [if_neg c7]
    by_cases c5 : t.1 = 5
    · rw [if_pos c5]; split
      · exact sd_lt (ih _ _ hwr (kk_tl hk))
      · exact sd_nil
    rw [if_neg c5]
    by_cases c6 : t.1 = 6
    · rw [if_pos c6]; split
      · exact sd_lc (ih _ _ (dvn_lt c6) (kk_dvn hk))
      · exact ih _ _ (dvn_lt c6) (kk_dvn hk)
    rw [if_neg c6]
    exact sd_nil
def ck_ (ch : Nat) : List Nat := if ch = 15 then [15, 16] else if ch = 16 then [15, 17] else [ch]
theorem ck_lt {a b : Nat} (h : a < b) (r r' : List Nat) : lx_ (ck_ b ++ r') (ck_ a ++ r) = false ∧ ck_ a ++ r ≠ ck_ b ++ r' := by
  unfold ck_
  have gen : ∀ (x y : Nat) (s s' : List Nat), x < y → lx_ (y :: s') (x :: s) = false ∧ x :: s ≠ y :: s' := fun x y s s' h => kl_ h s s'
  by_cases a15 : a = 15
  · rw [if_pos a15]
    by_cases b16 : b = 16
    · rw [if_neg (by omega), if_pos b16]
      show lx_ (15 :: 17 :: r') (15 :: 16 :: r) = false ∧ 15 :: 16 :: r ≠ 15 :: 17 :: r'
      rw [lx_cons]
      exact ⟨(gen 16 17 r r' (by decide)).1, fun e => (gen 16 17 r r' (by decide)).2 (List.cons.inj e).2⟩
    · rw [if_neg (by omega), if_neg b16]
      exact gen 15 b _ _ (by omega)
  · by_cases a16 : a = 16
    · rw [if_neg a15, if_pos a16, if_neg (by omega), if_neg (by omega)]
      exact gen 15 b _ _ (by omega)
    · rw [if_neg a15, if_neg a16]
      by_cases b15 : b = 15
      · rw [if_pos b15]; exact gen a 15 _ _ (by omega)
      · by_cases b16 : b = 16
        · rw [if_neg b15, if_pos b16]; exact gen a 15 _ _ (by omega)
        · rw [if_neg b15, if_neg b16]; exact gen a b _ _ h
theorem Bi_key {row : Nat → List gL} {ch p : Nat} (hg : g ≤ 6) (h12 : 1 ≤ ch) : ∀ x ∈ Bi w sg g row ch p, ∃ r, x.2.1.1 = ck_ ch ++ r := by
  intro x hx
  unfold Bi at hx
  cases hi : ic_ w g ch p with
  | none => rw [hi] at hx; cases hx
  | some k =>
    rw [hi] at hx
    dsimp only at hx
    have hkg := ic_le hi
    by_cases hh : hd_ w sg g k (if_ ch) p = true
    · rw [if_pos hh, List.mem_map] at hx
      obtain ⟨y, hy, rfl⟩ := hx
      by_cases h15 : ch = 15 ∨ ch = 16
      · have e15 : if_ ch = 15 := by unfold if_; split <;> omega
        rw [e15] at hy hh ⊢
        have e3 : ts_ sg k 15 = [(3, k, 0), (3, k, 0), (3, k, 0)] := rfl
        have hkk := ts_kk (w := w) (g := g) (p := p) (show k ≤ 6 by omega) hh
        rw [e3] at hy hkk
        rw [Bt_cons hkk] at hy
        unfold Bb at hy
        rw [if_pos (Or.inr (Or.inr rfl)), List.mem_flatMap] at hy
        obtain ⟨f, hf, hy⟩ := hy
        have hf2 : f = 16 ∨ f = 17 := by
          simp only [fs_, Nat.reduceEqDiff, if_false, List.mem_cons, List.not_mem_nil, or_false] at hf
          exact hf
        dsimp only at hy
        by_cases hh2 : hd_ w sg g k f (p + (iv_ sg k 15).length) = true
        · rw [if_pos hh2, List.mem_map] at hy
          obtain ⟨z, hz, rfl⟩ := hy
          have e0 : p + (iv_ sg k 15).length = p := rfl
          rw [e0] at hh2
          unfold ck_
          rcases h15 with c | c
          · rw [if_pos c]
            subst c
            have hic : w.2.2.1 p = k := by
              unfold ic_ at hi
              rw [if_neg (by omega), if_pos rfl] at hi
              split at hi
              · cases hi; rfl
              · cases hi
            rcases hf2 with rfl | rfl
            · exact ⟨z.2.1.1, rfl⟩
            · exfalso
              have h2 : (decide (k < 6) && (ro_dyed w p (k + 1) && ro_dyed w (p + 1) (k + 1))) = true := hh2
              simp at h2
              have := (dyed_k h2.2.1).1
              omega
          · rw [if_neg (by omega), if_pos c]
            subst c
            have hic : w.2.2.1 p = k + 1 := by
              unfold ic_ at hi
              rw [if_neg (by omega), if_neg (by omega), if_pos rfl] at hi
              split at hi
              · next q => cases hi; omega
              · cases hi
            rcases hf2 with rfl | rfl
            · exfalso
              have := (dyed_k (show ro_dyed w p k = true from hh2)).1
              omega
            · exact ⟨z.2.1.1, rfl⟩
        · rw [if_neg hh2] at hy; cases hy
      · have e : if_ ch = ch := if_neg (by omega)
        rw [e]
        unfold ck_
        rw [if_neg (by omega), if_neg (by omega)]
        exact ⟨y.2.1.1, rfl⟩
    · rw [if_neg hh] at hx; cases hx
theorem Bi_sd {row : Nat → List gL} (hr : ∀ q, sd_ (row q)) (hg : g ≤ 6) (ch p : Nat) : sd_ (Bi w sg g row ch p) := by
  unfold Bi
  cases hi : ic_ w g ch p with
  | none => exact sd_nil
  | some k =>
    dsimp only
    have hk := ic_le hi
    by_cases hh : hd_ w sg g k (if_ ch) p = true
    · rw [if_pos hh]
      exact sd_lp (Bt_sd hr _ _ (ts_kk (by omega) hh))
    · rw [if_neg hh]; exact sd_nil
theorem Br_sd (hg : g ≤ 6) : ∀ n p, p + n = w.1 → sd_ (Br w sg g p) := by
  intro n
  induction n using Nat.strongRecOn with
  | _ n ih =>
    intro p hn
    by_cases hp : p < w.1
    · rw [Br_eq hg hp]
      let row' : Nat → List gL := fun q => if p < q then Br w sg g q else []
      have hrow : ∀ q, sd_ (row' q) := by
        intro q
        show sd_ (if p < q then Br w sg g q else [])
        by_cases hq : p < q
        · rw [if_pos hq]
          by_cases hq2 : q ≤ w.1
          · exact ih (w.1 - q) (by omega) q (by omega)
          · rw [Br_end (by omega)]
            exact ⟨List.pairwise_singleton _ _, fun x hx y hy _ => by rw [List.mem_singleton] at hx hy; rw [hx, hy]⟩
        · rw [if_neg hq]; exact sd_nil
      rw [fm_congr (h := fun ch => Bi w sg g row' ch p) (fun ch _ => Bi_congr hg (fun q hq => (if_pos hq).symm))]
      apply sd_fm (key := ck_)
      · have : List.Pairwise (· < ·) (List.range' 1 18) := by decide
        exact this.imp (fun {a b} h => ck_lt h)
      · intro ch hch
        rw [List.mem_range'_1] at hch
        exact ⟨Bi_sd hrow hg ch p, Bi_key hg hch.1⟩
    · rw [Br_end (by omega)]
      exact ⟨List.pairwise_singleton _ _, fun x hx y hy _ => by rw [List.mem_singleton] at hx hy; rw [hx, hy]⟩
/-- values as many as places, some copy at least, the strain -/
def ok1 (w : ro_w) (p n : Nat) (x : gL) : Prop := x.2.1.2.length + p = w.1 ∧ 1 ≤ x.2.2 ∧ sn_ x.2.1.1 + 3 * n ≤ 3 * x.2.1.2.length
/-- notes that are taken by tasks -/
def nt_ (ts : List gK) : Nat := (ts.map (fun t => if t.1 = 4 ∨ t.1 = 5 ∨ t.1 = 7 then 1 else 0)).sum
theorem nt_cons (t : gK) (ts : List gK) : nt_ (t :: ts) = (if t.1 = 4 ∨ t.1 = 5 ∨ t.1 = 7 then 1 else 0) + nt_ ts := by unfold nt_; rw [List.map_cons, List.sum_cons]
theorem nt_app (ts us : List gK) : nt_ (ts ++ us) = nt_ ts + nt_ us := by unfold nt_; rw [List.map_append, List.sum_append]
theorem nt_dvn : ∀ ts, nt_ (dvn ts).2 = nt_ ts
  | [] => rfl
  | t :: ts => by
    unfold dvn
    split
    · next h => rw [nt_cons, if_neg (by omega), Nat.zero_add]; exact nt_dvn ts
    · rfl
theorem nt_ts {k f : Nat} : wt_ f ≤ 3 * (iv_ sg k f).length + 3 * nt_ (ts_ sg k f) ∨ f = 12 := by
  by_cases c7 : f = 7
  · subst c7; left; show 1 ≤ 3 * 1 + _; omega
  by_cases c12 : f = 12
  · exact Or.inr c12
  by_cases c8 : f = 8
  · subst c8
    left
    have : 1 ≤ nt_ (ts_ sg k 8) := by
      unfold ts_
      rw [nt_app]
      show 1 ≤ nt_ [(1, k + 1, 0), (4, k + 1, 2 * fl_ sg (k + 1))] + _
      rw [nt_cons, nt_cons, if_neg (show ¬ ((1 : Nat) = 4 ∨ (1 : Nat) = 5 ∨ (1 : Nat) = 7) by decide), if_pos (show (4 : Nat) = 4 ∨ (4 : Nat) = 5 ∨ (4 : Nat) = 7 by decide)]
      omega
    show 2 ≤ _
    omega
  by_cases c9 : f = 9
  · subst c9
    left
    have : 1 ≤ nt_ (ts_ sg k 9) := by
      unfold ts_
      rw [nt_app]
      show 1 ≤ nt_ [(1, k + 1, 0), (7, k, 2 * fl_ sg (k + 1))] + _
      rw [nt_cons, nt_cons, if_neg (show ¬ ((1 : Nat) = 4 ∨ (1 : Nat) = 5 ∨ (1 : Nat) = 7) by decide), if_pos (show (7 : Nat) = 4 ∨ (7 : Nat) = 5 ∨ (7 : Nat) = 7 by decide)]
      omega
    show 3 ≤ _
    omega
  left
  have e : wt_ f = 0 := by unfold wt_; rw [if_neg (by omega), if_neg c8, if_neg c9]
  omega
theorem sn_cons (f : Nat) (x : List Nat) : sn_ (f :: x) = wt_ f + sn_ x := by unfold sn_; rw [List.map_cons, List.sum_cons]
theorem ok1_lp {p n n' ch f : Nat} {iv : List Nat} {x : gL} (h : ok1 w (p + iv.length) n' x) (hn : wt_ f + 3 * n ≤ 3 * iv.length + 3 * n') : ok1 w p n (lp_ ch f iv x) := by
  obtain ⟨h1, h2, h3⟩ := h
  refine ⟨?_, h2, ?_⟩
  · show (iv ++ x.2.1.2).length + p = w.1
    rw [List.length_append]; omega
  · show sn_ (f :: x.2.1.1) + 3 * n ≤ 3 * (iv ++ x.2.1.2).length
    rw [List.length_append, sn_cons]; omega
theorem fs_12 {s f : Nat} (h : f ∈ fs_ s) : f ≠ 12 := by
  unfold fs_ at h
  intro e
  subst e
  split at h
  · revert h; decide
  · split at h <;> (revert h; decide)
theorem dvn_pos {t : gK} {r : List gK} (h : t.1 = 6) : 1 ≤ (dvn (t :: r)).1 := by
  show 1 ≤ (if t.1 = 6 then ((dvn r).1 + 1, (dvn r).2) else (0, t :: r)).1
  rw [if_pos h]
  show 1 ≤ (dvn r).1 + 1
  omega
theorem Bt_ok1 {row : Nat → List gL} (hr : ∀ q, q ≤ w.1 → ∀ x ∈ row q, ok1 w q 0 x) : ∀ ts p, kk_ ts → (p ≤ w.1 → ∀ x ∈ Bt w sg g row ts p, ok1 w p (nt_ ts) x) := by
  apply ch_ind (M := fun ts p => p ≤ w.1 → ∀ x ∈ Bt w sg g row ts p, ok1 w p (nt_ ts) x)
  · exact fun p hp => hr p hp
  · intro t r p hk ih hp x hx
    have hwr : wts r < wts (t :: r) := by rw [wts_cons]; have := wk_pos t; omega
    rw [Bt_cons hk] at hx
    unfold Bb at hx
    rw [nt_cons]
    by_cases c1 : t.1 = 1 ∨ t.1 = 2 ∨ t.1 = 3
    · rw [if_pos c1, List.mem_flatMap] at hx
      rw [if_neg (by omega), Nat.zero_add]
      obtain ⟨f, hf, hx⟩ := hx
      by_cases hh : hd_ w sg g t.2.1 f p = true
      · rw [if_pos hh, List.mem_map] at hx
        obtain ⟨y, hy, rfl⟩ := hx
        have hle : p + (iv_ sg t.2.1 f).length ≤ w.1 := by
          rcases hd_len hh with h0 | ⟨-, h0⟩
          · rw [h0]; exact hp
          · exact h0
        have h1 := ih _ _ (ts_wts' c1 hf hk) (kk_app (ts_kk (hk t List.mem_cons_self) hh) (kk_tl hk)) hle y hy
        rw [nt_app] at h1
        refine ok1_lp h1 ?_
        rcases nt_ts (sg := sg) (k := t.2.1) (f := f) with z | z
        · omega
        · exact absurd z (fs_12 hf)
      · rw [if_neg hh] at hx; cases hx
    rw [if_neg c1] at hx
    have tk : ∀ (b : Bool) (vs : List Nat), vs.length ≠ 0 → (b = true → p + vs.length ≤ w.1) → x ∈ (if b = true then (Bt w sg g row r (p + vs.length)).map (lt_ vs) else []) → ok1 w p (1 + nt_ r) x := by
      intro b vs hvs hb hx
      cases b
      · cases hx
      · rw [if_pos rfl, List.mem_map] at hx
        obtain ⟨y, hy, rfl⟩ := hx
        obtain ⟨a1, a2, a3⟩ := ih _ _ hwr (kk_tl hk) (hb rfl) y hy
        refine ⟨?_, a2, ?_⟩
        · show (vs ++ y.2.1.2).length + p = w.1
          rw [List.length_append]; omega
        · show sn_ ([] ++ y.2.1.1) + 3 * (1 + nt_ r) ≤ 3 * (vs ++ y.2.1.2).length
          rw [List.length_append, List.nil_append]; omega
    by_cases c4 : t.1 = 4
    · rw [if_pos c4] at hx
      rw [if_pos (Or.inl c4)]
      exact tk (al_ w p t.2.1) [t.2.2] (show (1 : Nat) ≠ 0 by decide) (fun h => by unfold al_ at h; simp at h; have := plain_lt h.1; exact this) hx
    rw [if_neg c4] at hx
    by_cases c7 : t.1 = 7
    · rw [if_pos c7] at hx
      rw [if_pos (Or.inr (Or.inr c7))]
      exact tk (li_ w p t.2.1) [t.2.2] (show (1 : Nat) ≠ 0 by decide) (fun h => by unfold li_ at h; simp at h; have := plain_lt h.1; exact this) hx
    rw [if_neg c7] at hx
    by_cases c5 : t.1 = 5
    · rw [if_pos c5] at hx
      rw [if_pos (Or.inr (Or.inl c5))]
      exact tk (do_ w p t.2.1) [t.2.2, 0] (show (2 : Nat) ≠ 0 by decide) (fun h => by unfold do_ at h; simp at h; have := dot_lt h.2; show p + 2 ≤ w.1; omega) hx
    rw [if_neg c5] at hx
    by_cases c6 : t.1 = 6
    · rw [if_pos c6] at hx
      rw [if_neg (by omega), Nat.zero_add]
      have e : nt_ (dvn (t :: r)).2 = nt_ r := by rw [nt_dvn, nt_cons, if_neg (by omega), Nat.zero_add]
      by_cases hd : ro_dot w p = true
      · rw [if_pos hd, List.mem_map] at hx
        obtain ⟨y, hy, rfl⟩ := hx
        have hlt := dot_lt hd
        obtain ⟨a1, a2, a3⟩ := ih _ _ (dvn_lt c6) (kk_dvn hk) (show p + 1 ≤ w.1 by omega) y hy
        rw [e] at a3
        refine ⟨?_, ?_, ?_⟩
        · show ([0] ++ y.2.1.2).length + p = w.1
          rw [List.length_append]; show 1 + _ + p = _; omega
        · show 1 ≤ (dvn (t :: r)).1 * y.2.2
          have := dvn_pos (r := r) c6
          have := Nat.mul_le_mul this a2
          omega
        · show sn_ (12 :: y.2.1.1) + 3 * nt_ r ≤ 3 * ([0] ++ y.2.1.2).length
          rw [List.length_append, sn_cons]
          show 1 + _ + _ ≤ 3 * (1 + _)
          omega
      · rw [if_neg hd] at hx
        have := ih _ _ (dvn_lt c6) (kk_dvn hk) hp x hx
        rw [e] at this
        exact this
    rw [if_neg c6] at hx
    cases hx
theorem Br_ok1 (hg : g ≤ 6) : ∀ n p, p + n = w.1 → ∀ x ∈ Br w sg g p, ok1 w p 0 x := by
  intro n
  induction n using Nat.strongRecOn with
  | _ n ih =>
    intro p hn x hx
    by_cases hp : p < w.1
    · rw [Br_eq hg hp, List.mem_flatMap] at hx
      obtain ⟨ch, -, hx⟩ := hx
      rw [Bi_congr (row' := fun q => if p < q then Br w sg g q else []) hg (fun q hq => (if_pos hq).symm)] at hx
      unfold Bi at hx
      cases hi : ic_ w g ch p with
      | none => rw [hi] at hx; cases hx
      | some k =>
        rw [hi] at hx
        dsimp only at hx
        have hk := ic_le hi
        by_cases hh : hd_ w sg g k (if_ ch) p = true
        · rw [if_pos hh, List.mem_map] at hx
          obtain ⟨y, hy, rfl⟩ := hx
          have hle : p + (iv_ sg k (if_ ch)).length ≤ w.1 := by
            rcases hd_len hh with h0 | ⟨-, h0⟩
            · rw [h0]; exact Nat.le_of_lt hp
            · exact h0
          have h1 := Bt_ok1 (sg := sg) (g := g) (row := fun q => if p < q then Br w sg g q else []) (fun q hq x hx => by
            split at hx
            · exact ih (w.1 - q) (by omega) q (by omega) x hx
            · cases hx) _ _ (ts_kk (show k ≤ 6 by omega) hh) hle y hy
          refine ok1_lp h1 ?_
          rcases nt_ts (sg := sg) (k := k) (f := if_ ch) with z | z
          · omega
          · exfalso
            have e : hd_ w sg g k 12 p = false := rfl
            rw [z, e] at hh
            cases hh
        · rw [if_neg hh] at hx; cases hx
    · rw [Br_end (by omega), List.mem_singleton] at hx
      subst hx
      exact ⟨by show 0 + p = w.1; omega, Nat.le_refl _, Nat.le_refl _⟩
end BR4
