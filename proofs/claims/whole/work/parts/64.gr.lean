/-! the readings in their order; what the reference holds -/
/-- the readings as the class counts them -/
def rL (w : ro_w) (sg g : Nat) : List gR := (Br w sg g 0).flatMap ex_
/-- in order -/
def rS (w : ro_w) (sg g : Nat) : List gR := (List.range 128).flatMap (fun s => (rL w sg g).filter (fun x => sn_ x.1 == s))
section FIN
variable {w : ro_w} {sg g : Nat} {T I : Nat → Nat}
theorem rL_mem {x : gR} (h : x ∈ rL w sg g) : ∃ y ∈ Br w sg g 0, y.2.1 = x := by
  unfold rL at h
  rw [List.mem_flatMap] at h
  obtain ⟨y, hy, hx⟩ := h
  exact ⟨y, hy, (List.eq_of_mem_replicate hx).symm⟩
theorem rL_ok (hg : g ≤ 6) {x : gR} (h : x ∈ rL w sg g) : x.2.length = w.1 ∧ sn_ x.1 ≤ 3 * w.1 := by
  obtain ⟨y, hy, rfl⟩ := rL_mem h
  obtain ⟨h1, h2, h3⟩ := Br_ok1 hg w.1 0 (by omega) y hy
  exact ⟨by omega, by omega⟩
theorem rL_det (hg : g ≤ 6) {x y : gR} (hx : x ∈ rL w sg g) (hy : y ∈ rL w sg g) (e : x.1 = y.1) : x = y := by
  obtain ⟨a, ha, rfl⟩ := rL_mem hx
  obtain ⟨b, hb, rfl⟩ := rL_mem hy
  exact (Br_sd hg w.1 0 (by omega)).2 a ha b hb e
theorem rL_lx (hg : g ≤ 6) : List.Pairwise (fun x y : gR => lx_ y.1 x.1 = false) (rL w sg g) := by
  unfold rL
  rw [List.pairwise_flatMap]
  refine ⟨fun a _ => ?_, (Br_sd hg w.1 0 (by omega)).1.imp (fun {a b} h x hx y hy => ?_)⟩
  · unfold ex_
    rw [List.pairwise_replicate]
    exact Or.inr (lx_irr _)
  · rw [List.eq_of_mem_replicate hx, List.eq_of_mem_replicate hy]
    exact h
theorem fl_parts (l : List gR) (n : Nat) (h : ∀ x ∈ l, sn_ x.1 < n) : ((List.range n).flatMap (fun s => l.filter (fun x => sn_ x.1 == s))).Perm l := by
  apply perm_of
  intro x
  induction l with
  | nil =>
    rw [show (List.range n).flatMap (fun s => ([] : List gR).filter (fun x => sn_ x.1 == s)) = [] from fm_nil _]
  | cons y l ih =>
    have ih := ih (fun z hz => h z (List.mem_cons_of_mem _ hz))
    have e : ∀ s, (y :: l).filter (fun x => sn_ x.1 == s) = (if sn_ y.1 = s then [y] else []) ++ l.filter (fun x => sn_ x.1 == s) := by
      intro s
      by_cases hs : sn_ y.1 = s
      · rw [List.filter_cons_of_pos (by simp [hs]), if_pos hs]; rfl
      · rw [List.filter_cons_of_neg (by simp [hs]), if_neg hs]; rfl
    rw [show (fun s => (y :: l).filter (fun x => sn_ x.1 == s)) = fun s => (if sn_ y.1 = s then [y] else []) ++ l.filter (fun x => sn_ x.1 == s) from funext e]
    rw [ct_of (fm_app _ _ _) x, List.count_append, ih]
    have h1 := rg_only (h := fun s => if sn_ y.1 = s then [y] else []) (κ := sn_ y.1) (fun k hk => if_neg (fun z => hk z.symm)) n
    rw [h1, if_pos (h y List.mem_cons_self), if_pos rfl]
    show _ = List.count x ([y] ++ l)
    rw [List.count_append]
theorem rS_perm (hg : g ≤ 6) (hw : w.1 ≤ 24) : (rS w sg g).Perm (rL w sg g) := fl_parts _ _ (fun x hx => by have := (rL_ok hg hx).2; omega)
theorem rS_bf (hg : g ≤ 6) : List.Pairwise (fun x y : gR => bf_ y.1 x.1 = false) (rS w sg g) := by
  unfold rS
  rw [List.pairwise_flatMap]
  constructor
  · intro s _
    refine ((rL_lx hg).filter _).imp_of_mem ?_
    intro x y hx hy h
    rw [List.mem_filter] at hx hy
    have e1 : sn_ x.1 = s := by simpa using hx.2
    have e2 : sn_ y.1 = s := by simpa using hy.2
    unfold bf_
    rw [if_pos (by omega)]
    exact h
  · have : List.Pairwise (· < ·) (List.range 128) := List.pairwise_lt_range
    refine this.imp ?_
    intro a b hab x hx y hy
    rw [List.mem_filter] at hx hy
    have e1 : sn_ x.1 = a := by simpa using hx.2
    have e2 : sn_ y.1 = b := by simpa using hy.2
    unfold bf_
    rw [if_neg (by omega)]
    simp
    omega
/-- a row as it can be: its ground, no two dots side by side -/
def rk_ (w : ro_w) (sg g : Nat) : Prop := w.1 ≤ 24 ∧ g ≤ 4 ∧ (∀ k, k < g → sp_perf sg k = false) ∧ ∀ q, ro_dot w q = true → ro_dot w (q + 1) = false
theorem rL_gD (hc : tc_ w sg g T I) (hk : rk_ w sg g) : (rL w sg g).Perm (gD w sg g T 0) :=
  (Br_p (show g ≤ 6 by have := hk.2.1; omega) hk.2.2.2 w.1 0 (by omega)).trans (pR_p hc hk.2.2.1 w.1 0 (by omega))
theorem rS_len (hc : tc_ w sg g T I) (hk : rk_ w sg g) : cq (I 0) (rS w sg g).length := by
  rw [(rS_perm (show g ≤ 6 by have := hk.2.1; omega) hk.1).length_eq, (rL_gD hc hk).length_eq]
  exact gD_cq hc w.1 0 (by omega)
/-- what the reference finds as the r-th in order -/
theorem rS_get (hc : tc_ w sg g T I) (hk : rk_ w sg g) (hN : I 0 ≤ 1000) {r q : Nat} (hr : r < I 0) (hq : (so_ (fun q => (rf_ w sg g T I q).1) (I 0))[I 0 - 1 - r]? = some q) : ∃ x, (rS w sg g)[r]? = some x ∧ (rf_ w sg g T I q).1 = x.1 ∧ (rf_ w sg g T I q).2 = sv (fun _ => 0) 0 x.2 ∧ x.2.length = w.1 := by
  have hg : g ≤ 6 := by have := hk.2.1; omega
  have hl := gD_cq hc w.1 0 (by omega)
  have hl2 : (gD w sg g T 0).length = I 0 := by unfold cq at hl; omega
  have hq0 : q < I 0 := so_lt _ _ _ (List.mem_of_getElem? hq)
  obtain ⟨x, x1, x2, x3, x4⟩ := rf_get hc hq0
  refine ⟨x, ?_, x2, x3, x4⟩
  have hp := (rS_perm hg hk.1).trans (rL_gD hc hk)
  have hd : ∀ x ∈ gD w sg g T 0, ∀ y ∈ gD w sg g T 0, x.1 = y.1 → x = y := fun x hx y hy e => rL_det hg ((rL_gD hc hk).mem_iff.mpr hx) ((rL_gD hc hk).mem_iff.mpr hy) e
  have hs := so_eq hp (rS_bf hg) hd
  rw [hl2] at hs
  have hso : ∀ n, n ≤ I 0 → so_ (fun q => ((gD w sg g T 0).getD q ([], [])).1) n = so_ (fun q => (rf_ w sg g T I q).1) n := by
    have hR : ∀ q, q < I 0 → ((gD w sg g T 0).getD q ([], [])).1 = (rf_ w sg g T I q).1 := by
      intro q hq
      obtain ⟨y, y1, y2, -, -⟩ := rf_get hc hq
      rw [List.getD_eq_getElem?_getD, y1, y2]
      rfl
    have hir : ∀ r l, r < I 0 → (∀ y ∈ l, y < I 0) → ir_ (fun q => ((gD w sg g T 0).getD q ([], [])).1) r l = ir_ (fun q => (rf_ w sg g T I q).1) r l := by
      intro r l hr hl
      induction l with
      | nil => rfl
      | cons y l ih =>
        unfold ir_
        rw [hR r hr, hR y (hl y List.mem_cons_self), ih (fun z hz => hl z (List.mem_cons_of_mem _ hz))]
    intro n
    induction n with
    | zero => intro _; rfl
    | succ n ih =>
      intro hn
      unfold so_
      rw [ih (by omega)]
      exact hir n _ (by omega) (fun y hy => by have := so_lt _ _ _ hy; omega)
  rw [← hs, hso _ (Nat.le_refl _), List.getElem?_map, List.getElem?_reverse (by rw [so_len]; exact hr), so_len, hq]
  show some ((gD w sg g T 0).getD q ([], [])) = _
  rw [List.getD_eq_getElem?_getD, x1]
  rfl
end FIN
