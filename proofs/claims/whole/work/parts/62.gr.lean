section BR3
variable {w : ro_w} {sg g : Nat}
def ex_ (x : gL) : List gR := List.replicate x.2.2 x.2.1
theorem plain_dot {p k : Nat} (hd : ro_dot w p = true) : ro_plain w p k = false := by
  unfold ro_dot at hd
  unfold ro_plain
  simp at hd
  simp [hd.2]
theorem rest_dot {p k : Nat} (hd : ro_dot w p = true) : ro_rest w p k = false := by
  unfold ro_dot at hd
  unfold ro_rest
  simp at hd
  simp [hd.2]
theorem dyed_dot {p k : Nat} (hd : ro_dot w p = true) : ro_dyed w p k = false := by
  unfold ro_dot at hd
  unfold ro_dyed
  simp at hd
  simp [hd.2]
theorem hd_dot {k f p : Nat} (hd : ro_dot w p = true) (hh : hd_ w sg g k f p = true) : iv_ sg k f = [] := by
  have h1 := plain_dot (k := k) hd
  have h2 := rest_dot (k := k) hd
  have h3 := dyed_dot (k := k) hd
  have h4 := dyed_dot (k := k + 1) hd
  by_cases c1 : f = 1
  · subst c1; simp [hd_, h1] at hh
  by_cases c2 : f = 2
  · subst c2; simp [hd_, h2] at hh
  by_cases c3 : f = 3
  · subst c3; simp [hd_, h1] at hh
  by_cases c7 : f = 7
  · subst c7; simp [hd_, h1] at hh
  by_cases c13 : f = 13
  · subst c13; simp [hd_, h1] at hh
  by_cases c16 : f = 16
  · subst c16; simp [hd_, h3] at hh
  by_cases c17 : f = 17
  · subst c17; simp [hd_, h4] at hh
  by_cases c18 : f = 18
  · subst c18; simp [hd_, h1] at hh
  unfold iv_
  rw [if_neg (by omega), if_neg c3, if_neg c7, if_neg c13, if_neg c16, if_neg c17, if_neg c18]
theorem pT_dot {k p : Nat} (hd : ro_dot w p = true) : pT1 w sg k 16 p ++ pT1 w sg k 17 p = [] := by
  unfold pT1
  have h3 := dyed_dot (k := k) hd
  have h4 := dyed_dot (k := k + 1) hd
  rw [if_neg (by simp [hd_, h3]), if_neg (by simp [hd_, h4])]
  rfl
theorem pF_dot {k f p : Nat} (hd : ro_dot w p = true) (hu : pU w sg g (k + 1) p = []) (hp : pP w sg g (k + 1) p = []) : pF w sg g k f p = [] := by
  by_cases hh : hd_ w sg g k f p = true
  · have h0 := hd_dot hd hh
    obtain ⟨t, ts, e, ht⟩ := ts_head h0 hh
    have hk := ts_kinds (sg := sg) (k := k) (f := f) t (by rw [e]; exact List.mem_cons_self)
    have z : pK w sg g t p = [] := by
      unfold pK pKx
      rcases ht with h | h | h
      · rw [if_pos h, hk (Or.inl h)]; exact hu
      · rw [if_neg (by omega), if_pos h, hk (Or.inr h)]; exact hp
      · rw [if_neg (by omega), if_neg (by omega), if_pos h]; exact pT_dot hd
    unfold pF pFx
    rw [if_pos hh, h0, e]
    show (gb (pK w sg g t p) (sq_ (pK w sg g) ts)).map _ = []
    rw [z]
    rfl
  · exact pF_hd hh
theorem pU_dot {p : Nat} (hd : ro_dot w p = true) : ∀ n k, k + n = 7 → pU w sg g k p = [] ∧ pP w sg g k p = []
  | 0, k, h => ⟨pU_7 (by omega), pP_7 (by omega)⟩
  | n + 1, k, h => by
    obtain ⟨h1, h2⟩ := pU_dot hd n (k + 1) (by omega)
    rw [pU_eq (by omega), pP_eq (by omega)]
    exact ⟨fm_z (fun f _ => pF_dot hd h1 h2), fm_z (fun f _ => pF_dot hd h1 h2)⟩
theorem pU_d {p : Nat} (hd : ro_dot w p = true) (k : Nat) : pU w sg g k p = [] ∧ pP w sg g k p = [] := by
  rcases Nat.lt_or_ge k 8 with z | z
  · exact pU_dot hd (7 - k) k (by omega)
  · exact ⟨pU_7 (by omega), pP_7 (by omega)⟩
theorem pK_dot {t : gK} {p : Nat} (hd : ro_dot w p = true) (h6 : t.1 ≠ 6) : pK w sg g t p = [] := by
  unfold pK pKx
  by_cases c1 : t.1 = 1
  · rw [if_pos c1]; exact (pU_d hd _).1
  rw [if_neg c1]
  by_cases c2 : t.1 = 2
  · rw [if_pos c2]; exact (pU_d hd _).2
  rw [if_neg c2]
  by_cases c3 : t.1 = 3
  · rw [if_pos c3]; exact pT_dot hd
  rw [if_neg c3]
  have h1 := plain_dot (k := t.2.1) hd
  by_cases c4 : t.1 = 4
  · rw [if_pos c4, if_neg (by unfold al_; rw [h1]; simp)]
  rw [if_neg c4]
  by_cases c7 : t.1 = 7
  · rw [if_pos c7, if_neg (by unfold li_; rw [h1]; simp)]
  rw [if_neg c7]
  by_cases c5 : t.1 = 5
  · rw [if_pos c5, if_neg (by unfold do_; rw [h1]; simp)]
  rw [if_neg c5, if_neg h6]
theorem its_dot {p : Nat} (hd : ro_dot w p = true) : its w sg g p = [] := by
  unfold its
  apply fm_z
  intro ch _
  unfold pI
  cases ic_ w g ch p with
  | none => rfl
  | some k => exact pF_dot hd (pU_d hd _).1 (pU_d hd _).2
theorem pR_dot {p : Nat} (hd : ro_dot w p = true) : pR w sg g p = [] := by
  rw [pR_eq (dot_lt hd), its_dot hd]
  rfl
/-! chains, told with the row behind -/
def gE (w : ro_w) (sg g : Nat) (rowx : Nat → List gR) (ts : List gK) (p : Nat) : List gR := gk (sq_ (pK w sg g) ts p) rowx
theorem gE_nil {rowx : Nat → List gR} {p : Nat} : gE w sg g rowx [] p = rowx p := gk_nil p rowx
theorem gE_cons {rowx : Nat → List gR} {t : gK} {ts : List gK} {p : Nat} : gE w sg g rowx (t :: ts) p = gk (pK w sg g t p) (gE w sg g rowx ts) := gk_gb _ _ _
theorem gE_app {rowx : Nat → List gR} {ts us : List gK} {p : Nat} : gE w sg g rowx (ts ++ us) p = gk (sq_ (pK w sg g) ts p) (gE w sg g rowx us) := by
  unfold gE
  rw [sq_app, gk_gb]
theorem gk_fm {α : Type} (l : List α) (F : α → gM) (h : Nat → List gR) : gk (l.flatMap F) h = l.flatMap (fun x => gk (F x) h) := by
  unfold gk
  rw [List.flatMap_assoc]
theorem gk_F {rowx : Nat → List gR} {k f p : Nat} {r : List gK} : gk (pF w sg g k f p) (gE w sg g rowx r) = if hd_ w sg g k f p = true then (gE w sg g rowx (ts_ sg k f ++ r) (p + (iv_ sg k f).length)).map (gc ([f], iv_ sg k f)) else [] := by
  unfold pF pFx
  by_cases hh : hd_ w sg g k f p = true
  · rw [if_pos hh, if_pos hh, gk_map, gE_app]
  · rw [if_neg hh, if_neg hh]; rfl
theorem gE_fs {rowx : Nat → List gR} {t : gK} {ts : List gK} {p : Nat} (hs : t.1 = 1 ∨ t.1 = 2 ∨ t.1 = 3) (hk : t.2.1 ≤ 6) : gE w sg g rowx (t :: ts) p = (fs_ t.1).flatMap (fun f => if hd_ w sg g t.2.1 f p = true then (gE w sg g rowx (ts_ sg t.2.1 f ++ ts) (p + (iv_ sg t.2.1 f).length)).map (gc ([f], iv_ sg t.2.1 f)) else []) := by
  rw [gE_cons]
  unfold pK pKx fs_
  rcases hs with h | h | h
  · rw [if_pos h, if_pos h, pU_eq hk, gk_fm]
    exact fm_congr (fun f _ => gk_F)
  · rw [if_neg (by omega), if_pos h, if_neg (by omega), if_pos h, pP_eq hk, gk_fm]
    exact fm_congr (fun f _ => gk_F)
  · rw [if_neg (by omega), if_neg (by omega), if_pos h, if_neg (by omega), if_neg (by omega)]
    have one : ∀ f, f = 16 ∨ f = 17 → gk (pT1 w sg t.2.1 f p) (gE w sg g rowx ts) = if hd_ w sg g t.2.1 f p = true then (gE w sg g rowx (ts_ sg t.2.1 f ++ ts) (p + (iv_ sg t.2.1 f).length)).map (gc ([f], iv_ sg t.2.1 f)) else [] := by
      intro f hf
      have e1 : hd_ w sg 0 t.2.1 f p = hd_ w sg g t.2.1 f p := by rcases hf with rfl | rfl <;> rfl
      have e2 : ts_ sg t.2.1 f = [] := by rcases hf with rfl | rfl <;> rfl
      unfold pT1
      rw [e1, e2]
      by_cases hh : hd_ w sg g t.2.1 f p = true
      · rw [if_pos hh, if_pos hh, gk_one]; rfl
      · rw [if_neg hh, if_neg hh]; rfl
    rw [gk_app, one 16 (Or.inl rfl), one 17 (Or.inr rfl)]
    simp only [List.flatMap_cons, List.flatMap_nil, List.append_nil]
theorem pDv_gk {p : Nat} {X : Nat → List gR} : gk (pDv w p) X = X p ++ (if ro_dot w p = true then (X (p + 1)).map (gc ([12], [0])) else []) := by
  unfold pDv
  have e : gk ((([], []), p) :: (if ro_dot w p = true then [(([12], [0]), p + 1)] else [])) X = gk [(([], []), p)] X ++ gk (if ro_dot w p = true then [(([12], [0]), p + 1)] else []) X := gk_app [_] _ X
  rw [e, gk_nil]
  congr 1
  split
  · rw [gk_one]
  · rfl
theorem gE_dv0 {rowx : Nat → List gR} {p : Nat} (hd : ro_dot w p = false) : ∀ ts, gE w sg g rowx ts p = gE w sg g rowx (dvn ts).2 p
  | [] => rfl
  | t :: ts => by
    unfold dvn
    split
    · next h6 =>
      rw [gE_cons]
      have e : pK w sg g t p = pDv w p := by
        unfold pK pKx
        rw [if_neg (by omega), if_neg (by omega), if_neg (by omega), if_neg (by omega), if_neg (by omega), if_neg (by omega), if_pos h6]
      rw [e, pDv_gk, if_neg (by rw [hd]; decide), List.append_nil]
      exact gE_dv0 hd ts
    · rfl
theorem gE_dead {rowx : Nat → List gR} (hr : ∀ q, ro_dot w q = true → rowx q = []) {p : Nat} (hd : ro_dot w p = true) : ∀ ts, (∀ t, ts.head? = some t → t.1 ≠ 6) → gE w sg g rowx ts p = []
  | [], _ => by rw [gE_nil]; exact hr p hd
  | t :: ts, h => by
    rw [gE_cons, pK_dot hd (h t rfl)]
    rfl
theorem gE_dv1 {rowx : Nat → List gR} (hr : ∀ q, ro_dot w q = true → rowx q = []) (nd : ∀ q, ro_dot w q = true → ro_dot w (q + 1) = false) {p : Nat} (hd : ro_dot w p = true) : ∀ ts, (gE w sg g rowx ts p).Perm (((gE w sg g rowx (dvn ts).2 (p + 1)).map (gc ([12], [0]))).flatMap (List.replicate (dvn ts).1))
  | [] => by
    rw [gE_dead hr hd [] (fun t h => by cases h)]
    show [].Perm (List.flatMap (List.replicate 0) _)
    rw [show (List.replicate 0 : gR → List gR) = fun _ => [] from rfl, fm_nil]
  | t :: ts => by
    unfold dvn
    split
    · next h6 =>
      rw [gE_cons]
      have e : pK w sg g t p = pDv w p := by
        unfold pK pKx
        rw [if_neg (by omega), if_neg (by omega), if_neg (by omega), if_neg (by omega), if_neg (by omega), if_neg (by omega), if_pos h6]
      rw [e, pDv_gk, if_pos hd, gE_dv0 (nd p hd) ts]
      have ih := gE_dv1 hr nd hd ts
      have h2 : (List.replicate ((dvn ts).1 + 1) : gR → List gR) = fun x => List.replicate (dvn ts).1 x ++ [x] := by
        funext x
        rw [List.replicate_succ']
      dsimp only
      rw [h2]
      refine List.Perm.trans ?_ (fm_app _ _ _).symm
      refine ih.append (List.Perm.of_eq ?_)
      rw [List.flatMap_singleton']
    · next h6 =>
      rw [gE_dead hr hd (t :: ts) (fun x hx => by cases hx; exact h6)]
      show [].Perm (List.flatMap (List.replicate 0) _)
      rw [show (List.replicate 0 : gR → List gR) = fun _ => [] from rfl, fm_nil]
/-! the class's list holds the same readings -/
theorem ex_lp {ch f : Nat} {iv : List Nat} {x : gL} : ex_ (lp_ ch f iv x) = (ex_ x).map (gc ([f], iv)) := by unfold ex_ lp_; rw [List.map_replicate]
theorem ex_lt {vs : List Nat} {x : gL} : ex_ (lt_ vs x) = (ex_ x).map (gc ([], vs)) := by unfold ex_ lt_; rw [List.map_replicate]
theorem rep_mul (j c : Nat) (x : gR) : (List.replicate (j * c) x) = (List.replicate c x).flatMap (List.replicate j) := by
  induction c with
  | zero => rfl
  | succ c ih => rw [Nat.mul_succ, List.replicate_succ, List.flatMap_cons, ← ih, List.replicate_append_replicate, Nat.add_comm]
theorem ex_lc {j : Nat} {x : gL} : ex_ (lc_ j x) = ((ex_ x).map (gc ([12], [0]))).flatMap (List.replicate j) := by
  unfold ex_ lc_
  rw [List.map_replicate]
  exact rep_mul _ _ _
theorem fm_map {α β γ : Type} {l : List α} {f : α → β} {h : β → List γ} : (l.map f).flatMap h = l.flatMap (fun x => h (f x)) := List.flatMap_map _ _ _
theorem Bt_p {row : Nat → List gL} {rowx : Nat → List gR} (hrow : ∀ q, ((row q).flatMap ex_).Perm (rowx q)) (hr : ∀ q, ro_dot w q = true → rowx q = []) (nd : ∀ q, ro_dot w q = true → ro_dot w (q + 1) = false) : ∀ ts p, kk_ ts → ((Bt w sg g row ts p).flatMap ex_).Perm (gE w sg g rowx ts p) := by
  apply ch_ind (M := fun ts p => ((Bt w sg g row ts p).flatMap ex_).Perm (gE w sg g rowx ts p))
  · intro p
    rw [gE_nil]
    exact hrow p
  · intro t r p hk ih
    have hwr : wts r < wts (t :: r) := by rw [wts_cons]; have := wk_pos t; omega
    rw [Bt_cons hk]
    unfold Bb
    by_cases c1 : t.1 = 1 ∨ t.1 = 2 ∨ t.1 = 3
    · rw [if_pos c1, gE_fs c1 (hk t List.mem_cons_self), List.flatMap_assoc]
      apply fm_pw
      intro f hf
      by_cases hh : hd_ w sg g t.2.1 f p = true
      · rw [if_pos hh, if_pos hh, fm_map]
        have e : (fun x => ex_ (lp_ f f (iv_ sg t.2.1 f) x)) = fun x => (ex_ x).map (gc ([f], iv_ sg t.2.1 f)) := funext (fun x => ex_lp)
        rw [e, ← List.map_flatMap]
        exact (ih _ _ (ts_wts' c1 hf hk) (kk_app (ts_kk (hk t List.mem_cons_self) hh) (kk_tl hk))).map _
      · rw [if_neg hh, if_neg hh]; exact List.Perm.refl _
    rw [if_neg c1]
    have h1 : ¬ t.1 = 1 := fun z => c1 (Or.inl z)
    have h2 : ¬ t.1 = 2 := fun z => c1 (Or.inr (Or.inl z))
    have h3 : ¬ t.1 = 3 := fun z => c1 (Or.inr (Or.inr z))
    have tk : ∀ (b : Bool) (vs : List Nat), pK w sg g t p = (if b = true then [(([], vs), p + vs.length)] else []) → (((if b = true then (Bt w sg g row r (p + vs.length)).map (lt_ vs) else []) : List gL).flatMap ex_).Perm (gE w sg g rowx (t :: r) p) := by
      intro b vs e
      rw [gE_cons, e]
      cases b
      · exact List.Perm.refl _
      · rw [if_pos rfl, if_pos rfl, gk_one, fm_map]
        have e : (fun x => ex_ (lt_ vs x)) = fun x => (ex_ x).map (gc ([], vs)) := funext (fun x => ex_lt)
        rw [e, ← List.map_flatMap]
        exact (ih _ _ hwr (kk_tl hk)).map _
    by_cases c4 : t.1 = 4
    · rw [if_pos c4]
      exact tk (al_ w p t.2.1) [t.2.2] (by unfold pK pKx; rw [if_neg h1, if_neg h2, if_neg h3, if_pos c4]; rfl)
    rw [if_neg c4]
    by_cases c7 : t.1 = 7
    · rw [if_pos c7]
      exact tk (li_ w p t.2.1) [t.2.2] (by unfold pK pKx; rw [if_neg h1, if_neg h2, if_neg h3, if_neg c4, if_pos c7]; rfl)
    rw [if_neg c7]
    by_cases c5 : t.1 = 5
    · rw [if_pos c5]
      exact tk (do_ w p t.2.1) [t.2.2, 0] (by unfold pK pKx; rw [if_neg h1, if_neg h2, if_neg h3, if_neg c4, if_neg c7, if_pos c5]; rfl)
    rw [if_neg c5]
    by_cases c6 : t.1 = 6
    · rw [if_pos c6]
      by_cases hd : ro_dot w p = true
      · rw [if_pos hd, fm_map]
        have e : (fun x => ex_ (lc_ (dvn (t :: r)).1 x)) = fun x => ((ex_ x).map (gc ([12], [0]))).flatMap (List.replicate (dvn (t :: r)).1) := funext (fun x => ex_lc)
        rw [e, ← List.flatMap_assoc, ← List.map_flatMap]
        refine List.Perm.trans ?_ (gE_dv1 hr nd hd (t :: r)).symm
        exact List.Perm.flatMap_right _ ((ih _ _ (dvn_lt c6) (kk_dvn hk)).map _)
      · rw [if_neg hd, gE_dv0 (by simpa using hd) (t :: r)]
        exact ih _ _ (dvn_lt c6) (kk_dvn hk)
    rw [if_neg c6, gE_cons]
    have e : pK w sg g t p = [] := by unfold pK pKx; rw [if_neg h1, if_neg h2, if_neg h3, if_neg c4, if_neg c7, if_neg c5, if_neg c6]
    rw [e]
    exact List.Perm.refl _
theorem Br_p (hg : g ≤ 6) (nd : ∀ q, ro_dot w q = true → ro_dot w (q + 1) = false) : ∀ n p, p + n = w.1 → ((Br w sg g p).flatMap ex_).Perm (pR w sg g p) := by
  intro n
  induction n using Nat.strongRecOn with
  | _ n ih =>
    intro p hn
    by_cases hp : p < w.1
    · rw [Br_eq hg hp, pR_eq hp]
      unfold its
      rw [gk_fm, List.flatMap_assoc]
      apply fm_pw
      intro ch _
      let row' : Nat → List gL := fun q => if p < q then Br w sg g q else []
      let rowx' : Nat → List gR := fun q => if p < q then pR w sg g q else []
      have e1 : Bi w sg g (Br w sg g) ch p = Bi w sg g row' ch p := Bi_congr hg (fun q hq => (if_pos hq).symm)
      rw [e1]
      have hrow : ∀ q, ((row' q).flatMap ex_).Perm (rowx' q) := by
        intro q
        show ((if p < q then Br w sg g q else []).flatMap ex_).Perm (if p < q then pR w sg g q else [])
        by_cases hq : p < q
        · rw [if_pos hq, if_pos hq]
          by_cases hq2 : q ≤ w.1
          · exact ih (w.1 - q) (by omega) q (by omega)
          · rw [Br_end (by omega), pR_end (by omega)]; exact List.Perm.refl _
        · rw [if_neg hq, if_neg hq]; exact List.Perm.refl _
      have hrd : ∀ q, ro_dot w q = true → rowx' q = [] := by
        intro q hq
        show (if p < q then pR w sg g q else []) = []
        split
        · exact pR_dot hq
        · rfl
      unfold Bi pI
      cases hi : ic_ w g ch p with
      | none => exact List.Perm.refl _
      | some k =>
        dsimp only
        have hk := ic_le hi
        have e2 : gk (pF w sg g k (if_ ch) p) (pR w sg g) = gk (pF w sg g k (if_ ch) p) (gE w sg g rowx' []) := by
          apply gk_congr
          intro x hx
          have := (eS_FF k (if_ ch) p x hx).1
          rw [gE_nil]
          exact (if_pos this).symm
        rw [e2, gk_F, List.append_nil]
        by_cases hh : hd_ w sg g k (if_ ch) p = true
        · rw [if_pos hh, if_pos hh, fm_map]
          have e : (fun x => ex_ (lp_ ch (if_ ch) (iv_ sg k (if_ ch)) x)) = fun x => (ex_ x).map (gc ([if_ ch], iv_ sg k (if_ ch))) := funext (fun x => ex_lp)
          rw [e, ← List.map_flatMap]
          exact (Bt_p hrow hrd nd _ _ (ts_kk (by omega) hh)).map _
        · rw [if_neg hh, if_neg hh]; exact List.Perm.refl _
    · rw [Br_end (by omega), pR_end (by omega)]
      exact List.Perm.refl _
end BR3
