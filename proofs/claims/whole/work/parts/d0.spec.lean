/-! the reference: what is wanted -/
section WAN
variable {sg : Nat} {wv : Nat → Int32} {F F' : Nat → Int32} {A A' : Nat → Nat → Int32} {cs : List Nat} {w : ro_w}
def wI (sg : Nat) (wv : Nat → Int32) (F : Nat → Int32) (A : Nat → Nat → Int32) : Prop := (F 12 = nI sg ∧ sg < 16) ∧ F 13 = nI (gd_ sg) ∧ F 34 = nI 0 ∧ vl_ A ∧ (∃ S, sc_at F S) ∧ (∃ T, tb_at A T ∧ tb_dg T) ∧ (∃ I, iw_at A I) ∧ (∀ k, k < 3 → A 53 k = wv k) ∧ ∀ i, i < 6 → st1 A i
/-- the row as it lies there -/
def wM (A : Nat → Nat → Int32) (cs : List Nat) : ro_w := ((wl cs).length, fun i => ((wl cs).getD i (0, 0)).1, fun i => (A 17 i).toInt.toNat, fun i => decide (A 18 i = nI 1))
theorem wM_dd (h : lyr A (wl cs)) (hc : ∀ c ∈ cs, c < 14) : dd_ (wM A cs) (wW cs) := by
  refine ⟨rfl, fun i _ => rfl, fun i hi h3 => ?_⟩
  have hi : i < (wl cs).length := hi
  obtain ⟨h1, h2⟩ := wl_in cs i hi
  have e : ((wl cs).getD i (0, 0)).1 = 1 := by
    rcases h1 with z | z
    · exact z
    · exact absurd (show ((wl cs).getD i (0, 0)).1 = 3 by rw [z]) h3
  obtain ⟨e7, e8⟩ := (h i hi).2 e
  refine ⟨?_, ?_⟩
  · show (A 17 i).toInt.toNat = ((wl cs).getD i (0, 0)).2
    rw [e7, nI_toInt (by have := h2 hc; omega)]
    rfl
  · show decide (A 18 i = nI 1) = false
    rw [e8]
    decide
theorem wM_rk (h : lyr A (wl cs)) (hc : ∀ c ∈ cs, c < 14) (hs : sg < 16) (hl : cs.length ≤ 3) : rk_ (wM A cs) sg (gd_ sg) ∧ ro_dot (wM A cs) 0 = false := by
  have hd := wM_dd h hc
  obtain ⟨⟨k1, k2, k3, k4⟩, k5⟩ := wW_rk (cs := cs) hs hl
  refine ⟨⟨k1, k2, k3, fun q hq => ?_⟩, (dd_dot hd 0).trans k5⟩
  rw [dd_dot hd] at hq ⊢
  exact k4 q hq
theorem st_nat {x : Int32} {k : Nat} (hk : k < 7) (h : x = nI k) : x = nI x.toInt.toNat ∧ x.toInt.toNat < 7 := by
  have e : x.toInt.toNat = k := by
    rw [h, nI_toInt (by omega)]
    rfl
  rw [e]
  exact ⟨h, hk⟩
theorem st_bool {x : Int32} {b : Bool} (h : x = nI (Bool.toNat b)) : x = nI (Bool.toNat (decide (x = nI 1))) := by
  subst h
  cases b <;> decide
theorem wM_at (hw : wI sg wv F A) (hly : lyr A (wl cs)) (h15 : F 15 = nI (wl cs).length) (hc : ∀ c ∈ cs, c < 14) (hl : cs.length ≤ 3) {T : Nat → Nat} (hT : tb_at A T) : cx_at F A (wM A cs) sg (gd_ sg) T := by
  obtain ⟨hk, hd⟩ := wM_rk hly hc hw.1.2 hl
  have hlen := wl_len cs
  refine ⟨⟨hk.1, h15, fun i hi => ?_⟩, hw.1, ⟨hw.2.1, hk.2.1⟩, hT, hd⟩
  have hi : i < (wl cs).length := hi
  obtain ⟨⟨k, k7, e7⟩, b, e8⟩ := hw.2.2.2.2.2.2.2.2 i (by omega)
  obtain ⟨h1, -⟩ := wl_in cs i hi
  have h4 : ((wl cs).getD i (0, 0)).1 < 4 := by rcases h1 with z | z <;> rw [z] <;> decide
  exact ⟨(hly i hi).1, (st_nat k7 e7).1, st_bool e8, h4, (st_nat k7 e7).2⟩
theorem wI_ra (h : wI sg wv F A) (hF : ra_F F F') (hA : ra_A A A') (h34 : F' 34 = nI 0) (hvl : vl_ A') {S : sc_S} (hs : sc_at F' S) {T : Nat → Nat} (ht : tb_at A' T) (hd : tb_dg T) {I : Nat → Nat} (hI : iw_at A' I) : wI sg wv F' A' := by
  obtain ⟨⟨a1, a2⟩, a3, a4, a5, a6, a7, a8, a9, a10⟩ := h
  refine ⟨⟨(hF 12 (by decide) (by decide) (by decide) (by decide)).trans a1, a2⟩, (hF 13 (by decide) (by decide) (by decide) (by decide)).trans a3, h34, hvl, ⟨S, hs⟩, ⟨T, ht, hd⟩, ⟨I, hI⟩, fun k hk => ?_, fun i hi => ?_⟩
  · rw [hA 53 (by decide) (by decide) (by decide)]
    exact a9 k hk
  · exact st1_eq (hA 17 (by decide) (by decide) (by decide)) (hA 18 (by decide) (by decide) (by decide)) (a10 i hi)
theorem wok_0 (hd : dd_ w (wW cs)) (h : (rD w sg).length = 0 ∨ 1000 < (rD w sg).length) : wok sg wv cs = false := by
  rw [dd_rD hd] at h
  unfold wok
  rcases h with h | h
  · rw [decide_eq_false (show ¬ 0 < (rD (wW cs) sg).length by omega)]
    rfl
  · rw [decide_eq_false (show ¬ (rD (wW cs) sg).length ≤ 1000 by omega), Bool.and_false]
    rfl
theorem wok_y {y : gR} (hd : dd_ w (wW cs)) (h0 : 0 < (rD w sg).length) (h1 : (rD w sg).length ≤ 1000) (hy : (rD w sg)[0]? = some y) : wok sg wv cs = nk (aV y) wv (wl cs) 0 0 := by
  rw [dd_rD hd] at h0 h1 hy
  unfold wok
  rw [decide_eq_true h0, decide_eq_true h1, List.getD_eq_getElem?_getD, hy]
  rfl
def cnN : List (Nat × Nat) → Nat
  | [] => 0
  | t :: l => (if t.1 = 1 then 1 else 0) + cnN l
theorem cnN_wl : ∀ (cs : List Nat), cnN (wl cs) = cs.length
  | [] => rfl
  | c :: cs => by
    have ih := cnN_wl cs
    rw [wl_cons, List.length_cons]
    by_cases h : c % 2 = 1
    · rw [if_pos h]
      show 1 + (0 + cnN (wl cs)) = _
      omega
    · rw [if_neg h]
      show 1 + cnN (wl cs) = _
      omega
theorem nk_d {V : Nat → Nat} {t : Nat × Nat} {l : List (Nat × Nat)} {i k : Nat} (h : ¬ t.1 = 1) : nk V wv (t :: l) i k = nk V wv l (i + 1) k := if_neg h
theorem nk_n {V : Nat → Nat} {t : Nat × Nat} {l : List (Nat × Nat)} {i k : Nat} (h : t.1 = 1) : nk V wv (t :: l) i k = (decide (nI (V i) = wv k) && nk V wv l (i + 1) (k + 1)) := if_pos h
end WAN
