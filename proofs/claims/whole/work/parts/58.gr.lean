/-! items, rows -/
def ic_ (w : ro_w) (g ch p : Nat) : Option Nat :=
  if ch = 1 ∨ ch = 2 ∨ ch = 18 then (if w.2.2.1 p ≤ g then some (w.2.2.1 p) else none)
  else if ch = 15 then (if w.2.2.2 p = true ∧ w.2.2.1 p ≤ g then some (w.2.2.1 p) else none)
  else if ch = 16 then (if w.2.2.2 p = true ∧ 1 ≤ w.2.2.1 p ∧ w.2.2.1 p - 1 ≤ g then some (w.2.2.1 p - 1) else none)
  else if ch = 12 ∨ ch = 17 then none else some g
def if_ (ch : Nat) : Nat := if ch = 16 then 15 else ch
def pI (w : ro_w) (sg g ch p : Nat) : gM := match ic_ w g ch p with
  | none => []
  | some k => pF w sg g k (if_ ch) p
def its (w : ro_w) (sg g p : Nat) : gM := (List.range' 1 18).flatMap (fun ch => pI w sg g ch p)
def pRf (w : ro_w) (sg g : Nat) : Nat → Nat → List gR
  | 0, _ => [([], [])]
  | f + 1, p => if w.1 ≤ p then [([], [])] else gk (its w sg g p) (pRf w sg g f)
def pR (w : ro_w) (sg g p : Nat) : List gR := pRf w sg g (w.1 - p) p
section ITS
variable {w : ro_w} {sg g : Nat} {T I : Nat → Nat}
theorem eS_I (ch p : Nat) : eS w (pI w sg g ch p) p := by
  unfold pI
  cases ic_ w g ch p with
  | none => intro x hx; cases hx
  | some k => exact eS_FF k _ p
theorem eS_its (p : Nat) : eS w (its w sg g p) p := by
  intro x hx
  unfold its at hx
  rw [List.mem_flatMap] at hx
  obtain ⟨ch, -, hx⟩ := hx
  exact eS_I ch p x hx
theorem gk_congr {A : gM} {f h : Nat → List gR} (e : ∀ x ∈ A, f x.2 = h x.2) : gk A f = gk A h := fm_congr (fun x hx => by rw [e x hx])
theorem pRf_ir : ∀ (f p : Nat), w.1 - p ≤ f → pRf w sg g f p = pR w sg g p
  | 0, p, h => by unfold pR; rw [show w.1 - p = 0 from by omega]
  | f + 1, p, h => by
    unfold pR
    by_cases hp : w.1 ≤ p
    · rw [show w.1 - p = 0 from by omega]
      show (if w.1 ≤ p then _ else _) = _
      rw [if_pos hp]; rfl
    · rw [show w.1 - p = (w.1 - p - 1) + 1 from by omega]
      show (if w.1 ≤ p then _ else _) = (if w.1 ≤ p then _ else _)
      rw [if_neg hp, if_neg hp]
      apply gk_congr
      intro x hx
      have := eS_its p x hx
      rw [pRf_ir f x.2 (by omega)]
      by_cases h2 : w.1 - x.2 ≤ w.1 - p - 1
      · rw [pRf_ir (w.1 - p - 1) x.2 h2]
      · omega
theorem pR_end {p : Nat} (h : w.1 ≤ p) : pR w sg g p = [([], [])] := by unfold pR; rw [show w.1 - p = 0 from by omega]; rfl
theorem pR_eq {p : Nat} (h : p < w.1) : pR w sg g p = gk (its w sg g p) (pR w sg g) := by
  conv => lhs; unfold pR
  rw [show w.1 - p = (w.1 - p - 1) + 1 from by omega]
  show (if w.1 ≤ p then _ else _) = _
  rw [if_neg (by omega)]
  apply gk_congr
  intro x hx
  have := eS_its p x hx
  exact pRf_ir _ _ (by omega)
theorem rg_only {β : Type} {h : Nat → List β} {κ : Nat} (hz : ∀ k, k ≠ κ → h k = []) (N : Nat) : (List.range N).flatMap h = if κ < N then h κ else [] := by
  by_cases hk : κ < N
  · rw [if_pos hk]; exact rg_one hk hz
  · rw [if_neg hk]
    exact fm_z (fun m hm => hz m (by rw [List.mem_range] at hm; omega))
theorem rg_pair {β : Type} {h : Nat → List β} {κ : Nat} (hz : ∀ k, k ≠ κ → k + 1 ≠ κ → h k = []) : ∀ N, (List.range N).flatMap h = (if 1 ≤ κ ∧ κ - 1 < N then h (κ - 1) else []) ++ (if κ < N then h κ else [])
  | 0 => by rw [if_neg (by omega), if_neg (by omega)]; rfl
  | N + 1 => by
    rw [List.range_succ, List.flatMap_append, rg_pair hz N]
    simp only [List.flatMap_cons, List.flatMap_nil, List.append_nil]
    by_cases h1 : N = κ
    · subst h1
      by_cases h2 : 1 ≤ N
      · rw [if_pos (by omega), if_neg (by omega), if_pos (by omega), if_pos (by omega), List.append_nil]
      · rw [if_neg (by omega), if_neg (by omega), if_neg (by omega), if_pos (by omega)]; rfl
    · by_cases h2 : N + 1 = κ
      · rw [if_neg (by omega), if_neg (by omega), if_pos (by omega), if_neg (by omega), show κ - 1 = N from by omega]; simp
      · rw [hz N h1 h2, List.append_nil]
        congr 1
        · by_cases h3 : 1 ≤ κ ∧ κ - 1 < N
          · rw [if_pos h3, if_pos (by omega)]
          · rw [if_neg h3, if_neg (by omega)]
        · by_cases h3 : κ < N
          · rw [if_pos h3, if_pos (by omega)]
          · rw [if_neg h3, if_neg (by omega)]
theorem plain_k {p k : Nat} (h : ro_plain w p k = true) : w.2.2.1 p = k := by unfold ro_plain at h; simp at h; exact h.2.2.2
theorem rest_k {p k : Nat} (h : ro_rest w p k = true) : w.2.2.1 p = k := by unfold ro_rest at h; simp at h; exact h.2.2
theorem dyed_k {p k : Nat} (h : ro_dyed w p k = true) : w.2.2.1 p = k ∧ w.2.2.2 p = true := by unfold ro_dyed at h; simp at h; exact ⟨h.2.2.2, h.2.2.1⟩
theorem pF_hd {k f p : Nat} (h : ¬ hd_ w sg g k f p = true) : pF w sg g k f p = [] := by unfold pF pFx; rw [if_neg h]
theorem hd_k {k f p : Nat} (hf : f = 1 ∨ f = 2 ∨ f = 18) (h : hd_ w sg g k f p = true) : w.2.2.1 p = k := by
  rcases hf with rfl | rfl | rfl
  · exact plain_k (show ro_plain w p k = true from h)
  · exact rest_k (show ro_rest w p k = true from h)
  · have h2 : (decide (k < g) && (ro_plain w p k && ro_dot w (p + 1))) = true := h
    simp at h2
    exact plain_k h2.2.1
theorem it_1 {f a b : Nat} (hf : f = 1 ∨ f = 2 ∨ f = 18) : rs (pI w sg g f a) b = (List.range g).flatMap (fun k => rs (pF w sg g k f a) b) ++ rs (pF w sg g g f a) b := by
  have h1 := rg_only (h := fun k => rs (pF w sg g k f a) b) (κ := w.2.2.1 a) (fun k hk => by
    rw [pF_hd (fun z => hk (hd_k hf z).symm)]; rfl) (g + 1)
  rw [List.range_succ, List.flatMap_append] at h1
  simp only [List.flatMap_cons, List.flatMap_nil, List.append_nil] at h1
  rw [h1]
  have e1 : ic_ w g f a = if w.2.2.1 a ≤ g then some (w.2.2.1 a) else none := by unfold ic_; rw [if_pos hf]
  have e2 : if_ f = f := if_neg (by omega)
  unfold pI
  rw [e1, e2]
  by_cases h2 : w.2.2.1 a ≤ g
  · rw [if_pos h2, if_pos (show w.2.2.1 a < g + 1 by omega)]
  · rw [if_neg h2, if_neg (show ¬ w.2.2.1 a < g + 1 by omega)]; rfl
/-- thirds begin with a coloured note of their kind, or of the next -/
theorem hd_15 {k a : Nat} (h : ¬ (w.2.2.2 a = true ∧ (w.2.2.1 a = k ∨ w.2.2.1 a = k + 1))) : pF w sg g k 15 a = [] := by
  have z : pK w sg g (3, k, 0) a = [] := by
    show pT1 w sg k 16 a ++ pT1 w sg k 17 a = []
    unfold pT1
    rw [if_neg, if_neg]
    · rfl
    · intro q
      have h2 : (decide (k < 6) && (ro_dyed w a (k + 1) && ro_dyed w (a + 1) (k + 1))) = true := q
      simp at h2
      have := dyed_k h2.2.1
      exact h ⟨this.2, Or.inr this.1⟩
    · intro q
      have := dyed_k (show ro_dyed w a k = true from q)
      exact h ⟨this.2, Or.inl this.1⟩
  unfold pF pFx
  rw [if_pos (show hd_ w sg g k 15 a = true from rfl)]
  show ((sq_ (pK w sg g) [(3, k, 0), (3, k, 0), (3, k, 0)] a).map _) = []
  rw [sq_three, z]
  rfl
theorem it_15 {a b : Nat} : rs (pI w sg g 16 a) b ++ rs (pI w sg g 15 a) b = (List.range g).flatMap (fun k => rs (pF w sg g k 15 a) b) ++ rs (pF w sg g g 15 a) b := by
  have h1 := rg_pair (h := fun k => rs (pF w sg g k 15 a) b) (κ := w.2.2.1 a) (fun k hk hk2 => by
    rw [hd_15 (fun z => z.2.elim (fun q => hk q.symm) (fun q => hk2 q.symm))]; rfl) (g + 1)
  rw [List.range_succ, List.flatMap_append] at h1
  simp only [List.flatMap_cons, List.flatMap_nil, List.append_nil] at h1
  rw [h1]
  unfold pI ic_ if_
  simp only [show ¬ ((16 : Nat) = 1 ∨ (16 : Nat) = 2 ∨ (16 : Nat) = 18) by decide, show ¬ ((15 : Nat) = 1 ∨ (15 : Nat) = 2 ∨ (15 : Nat) = 18) by decide, show ¬ ((16 : Nat) = 15) by decide, show ¬ ((15 : Nat) = 16) by decide, if_true, if_false]
  by_cases hcol : w.2.2.2 a = true
  · congr 1
    · by_cases h2 : 1 ≤ w.2.2.1 a ∧ w.2.2.1 a - 1 ≤ g
      · rw [if_pos ⟨hcol, h2⟩, if_pos (by omega)]
      · rw [if_neg (fun z => h2 z.2), if_neg (by omega)]; rfl
    · by_cases h2 : w.2.2.1 a ≤ g
      · rw [if_pos ⟨hcol, h2⟩, if_pos (by omega)]
      · rw [if_neg (fun z => h2 z.2), if_neg (by omega)]; rfl
  · rw [if_neg (fun z => hcol z.1), if_neg (fun z => hcol z.1), hd_15 (fun z => hcol z.1), hd_15 (fun z => hcol z.1)]
    simp [rs_nil]
theorem gGs_fm {a b : Nat} : ∀ f k, gGs w sg a b f k = (List.range' k f).flatMap (fun k => gG w sg k a b)
  | 0, _ => rfl
  | f + 1, k => by
    rw [List.range'_succ, List.flatMap_cons, ← gGs_fm f (k + 1)]
    rfl
theorem c18 {k a b : Nat} (hk : k < g) : rs (pF w sg g k 18 a) b = if b = a + 2 ∧ ro_plain w a k = true ∧ ro_dot w (a + 1) = true then [([18], [fl_ sg k + fl_ sg k / 2, 0])] else [] := by
  rw [pF_no (Or.inl (by omega))]
  unfold cF
  rw [show hd_ w sg g k 18 a = (decide (k < g) && (ro_plain w a k && ro_dot w (a + 1))) from rfl, decide_eq_true hk]
  by_cases h : ro_plain w a k = true ∧ ro_dot w (a + 1) = true
  · rw [if_pos (by rw [h.1, h.2]; rfl)]
    show rs [(gc ([18], [fl_ sg k + fl_ sg k / 2, 0]) ([], []), a + 2)] b = _
    rw [rs_cons, rs_nil, List.append_nil, gc_nil]
    by_cases h2 : b = a + 2
    · rw [if_pos h2.symm, if_pos ⟨h2, h⟩]
    · rw [if_neg (fun z => h2 z.symm), if_neg (fun z => h2 z.1)]
  · rw [if_neg (by simpa using h), if_neg (fun z => h z.2)]; rfl
theorem gG_p {k a b : Nat} (hk : k < g) (hp : sp_perf sg k = false) (hb : b ≤ w.1) : (gG w sg k a b).Perm (rs (pF w sg g k 1 a) b ++ (rs (pF w sg g k 2 a) b ++ (rs (pF w sg g k 18 a) b ++ rs (pF w sg g k 15 a) b))) := by
  rw [c18 hk, pF_no (Or.inr hp), pF_no (Or.inr hp), pF_no (f := 15) (Or.inr hp), c12 (Or.inl rfl) (c := ro_plain w a k) rfl, c12 (Or.inr rfl) (c := ro_rest w a k) rfl]
  unfold gG
  rw [← List.append_assoc (if b = a + 1 then Lb (ro_plain w a k) ([1], [fl_ sg k]) else [])]
  refine List.Perm.append (List.Perm.of_eq ?_) (List.Perm.append_left _ (c15 hb).symm)
  by_cases h1 : b = a + 1
  · rw [if_pos h1, if_pos h1, if_pos h1]
    unfold Lb
    by_cases h2 : ro_rest w a k = true
    · rw [if_pos h2, if_pos h2, pr_rest h2]; rfl
    · rw [if_neg h2, if_neg h2, List.append_nil]
  · rw [if_neg h1, if_neg h1, if_neg h1]; rfl
theorem it_p (hc : tc_ w sg g T I) (hg : ∀ k, k < g → sp_perf sg k = false) {a b : Nat} (hb : b ≤ w.1) : (rs (its w sg g a) b).Perm (gI w sg g T a b) := by
  have hg4 := hc.2.2.2.2.1
  unfold its gI
  rw [rs_fm, show List.range' 1 18 = [1, 2, 3, 4, 5, 6, 7, 8, 9, 10, 11, 12, 13, 14, 15, 16, 17, 18] from rfl]
  have hU := (pq_k hc g a b).1
  have hP := (pq_k hc g a b).2
  rw [pU_eq (by omega), rs_fm, f11] at hU
  rw [pP_eq (by omega), rs_fm] at hP
  simp only [List.flatMap_cons, List.flatMap_nil, List.append_nil] at hP ⊢
  have hG : (gGs w sg a b g 0).Perm ((List.range g).flatMap (fun k => rs (pF w sg g k 1 a) b) ++ ((List.range g).flatMap (fun k => rs (pF w sg g k 2 a) b) ++ ((List.range g).flatMap (fun k => rs (pF w sg g k 18 a) b) ++ (List.range g).flatMap (fun k => rs (pF w sg g k 15 a) b)))) := by
    rw [gGs_fm, ← List.range_eq_range']
    refine (fm_pw (fun k hk => gG_p (by rw [List.mem_range] at hk; exact hk) (hg k (by rw [List.mem_range] at hk; exact hk)) hb)).trans ?_
    refine (fm_app _ _ _).trans (List.Perm.append_left _ ?_)
    refine (fm_app _ _ _).trans (List.Perm.append_left _ ?_)
    exact fm_app _ _ _
  have e : ∀ ch, (3 ≤ ch ∧ ch ≤ 11 ∨ ch = 13 ∨ ch = 14) → rs (pI w sg g ch a) b = rs (pF w sg g g ch a) b := by
    intro ch h
    have e1 : ic_ w g ch a = some g := by
      unfold ic_
      rw [if_neg (by omega), if_neg (by omega), if_neg (by omega), if_neg (by omega)]
    have e2 : if_ ch = ch := if_neg (by omega)
    unfold pI
    rw [e1, e2]
  have en : ∀ ch, (ch = 12 ∨ ch = 17) → rs (pI w sg g ch a) b = [] := by
    intro ch h
    have e1 : ic_ w g ch a = none := by
      unfold ic_
      rw [if_neg (by omega), if_neg (by omega), if_neg (by omega), if_pos (by omega)]
    unfold pI
    rw [e1]
    exact rs_nil b
  have e12 := en 12 (Or.inl rfl)
  have e17 := en 17 (Or.inr rfl)
  rw [e 3 (by omega), e 4 (by omega), e 5 (by omega), e 6 (by omega), e 7 (by omega), e 8 (by omega), e 9 (by omega), e 10 (by omega), e 11 (by omega), e 13 (by omega), e 14 (by omega), e12, e17, it_1 (Or.inl rfl), it_1 (Or.inr (Or.inl rfl)), it_1 (Or.inr (Or.inr rfl))]
  have e18 : rs (pF w sg g g 18 a) b = [] := by
    rw [pF_hd]
    · rfl
    · rw [show hd_ w sg g g 18 a = (decide (g < g) && (ro_plain w a g && ro_dot w (a + 1))) from rfl]
      simp
  rw [e18]
  apply perm_of
  intro x
  clear e en e12 e17 e18
  have q1 := ct_of hU x
  have q2 := ct_of hP x
  have q3 := ct_of hG x
  have q4 := congrArg (List.count x) (it_15 (w := w) (sg := sg) (g := g) (a := a) (b := b))
  simp only [List.count_append, List.count_nil] at q1 q2 q3 q4 ⊢
  generalize (rs (pI w sg g 15 a) b).count x = i15 at *
  generalize (rs (pI w sg g 16 a) b).count x = i16 at *
  generalize (rs (pF w sg g g 1 a) b).count x = n1 at *
  generalize (rs (pF w sg g g 2 a) b).count x = n2 at *
  generalize (rs (pF w sg g g 3 a) b).count x = n3 at *
  generalize (rs (pF w sg g g 4 a) b).count x = n4 at *
  generalize (rs (pF w sg g g 5 a) b).count x = n5 at *
  generalize (rs (pF w sg g g 6 a) b).count x = n6 at *
  generalize (rs (pF w sg g g 7 a) b).count x = n7 at *
  generalize (rs (pF w sg g g 8 a) b).count x = n8 at *
  generalize (rs (pF w sg g g 9 a) b).count x = n9 at *
  generalize (rs (pF w sg g g 10 a) b).count x = n10 at *
  generalize (rs (pF w sg g g 11 a) b).count x = n11 at *
  generalize (rs (pF w sg g g 13 a) b).count x = n13 at *
  generalize (rs (pF w sg g g 14 a) b).count x = n14 at *
  generalize (rs (pF w sg g g 15 a) b).count x = n15 at *
  generalize (gU w sg T g a b).count x = nu at *
  generalize (gP w sg T g a b).count x = np at *
  generalize (gGs w sg a b g 0).count x = ng at *
  generalize ((List.range g).flatMap (fun k => rs (pF w sg g k 1 a) b)).count x = m1 at *
  generalize ((List.range g).flatMap (fun k => rs (pF w sg g k 2 a) b)).count x = m2 at *
  generalize ((List.range g).flatMap (fun k => rs (pF w sg g k 18 a) b)).count x = m18 at *
  generalize ((List.range g).flatMap (fun k => rs (pF w sg g k 15 a) b)).count x = m15 at *
  clear hU hP hG
  subst q1 q2 q3
  have q5 : m15 + n15 = i16 + i15 := q4.symm
  simp only [Nat.zero_add, Nat.add_zero]
  revert q5
  clear q4 hc hg hb hg4
  intro q5
  omega
/-- both lists of readings are the same, but for their order -/
theorem pR_p (hc : tc_ w sg g T I) (hg : ∀ k, k < g → sp_perf sg k = false) : ∀ n a, a + n = w.1 → (pR w sg g a).Perm (gD w sg g T a) := by
  intro n
  induction n using Nat.strongRecOn with
  | _ n ih =>
    intro a hn
    by_cases ha : a < w.1
    · rw [pR_eq ha, gD_eq ha]
      unfold gk
      refine (fm_grp (fun x => (pR w sg g x.2).map (gc x.1)) (w.1 + 1) _ (lt_N (eS_its a))).trans ?_
      rw [rg_cut (a := a) (b := w.1 + 1) (Nat.le_refl _) (fun m hm => by
        rw [rs_ge (eS_its a) (by omega)]; rfl)]
      show ((List.range' (a + 1) (w.1 + 1 - (a + 1))).flatMap _).Perm _
      rw [show w.1 + 1 - (a + 1) = w.1 - a from by omega]
      apply fm_pw
      intro m hm
      rw [List.mem_range'_1] at hm
      exact gx_perm (it_p hc hg (by omega)) (ih (w.1 - m) (by omega) m (by omega))
    · rw [pR_end (by omega), gD_end (by omega)]
end ITS
