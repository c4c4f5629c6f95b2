/-! the reference: rows written -/
section WRT
variable {s : aS} {sg n : Nat} {wv : Nat → Int32} {F F1 F2 F' : Nat → Int32} {A A1 A2 A' : Nat → Nat → Int32} {B : Nat → Nat → Int64} {cs : List Nat}
def wAn : Option (List Nat) → Int32
  | none => -1
  | some cs => nI (wl cs).length
def wkd (s : aS) (cs : List Nat) (j : Nat) : Nat := if j < (wl cs).length then (if ((wl cs).getD j (0, 0)).1 = 3 then 7 else ((wl cs).getD j (0, 0)).2) else aWk s j
def aWr (s : aS) : Option (List Nat) → aS
  | none => s
  | some cs => aWrite s (wl cs).length (wkd s cs)
def wv3 (a b c : Int32) (i : Nat) : Int32 := if i = 0 then a else if i = 1 then b else c
theorem wRes_in (h : wRes sg n wv = some cs) : cs.length = n ∧ ∀ c ∈ cs, c < 14 := ENr_mem n cs (wS_mem (List.mem_of_find?_eq_some h))
theorem WF_wr (hW : WF s) (hn : n ≤ 3) : WF (aWr s (wRes sg n wv)) := by
  cases h : wRes sg n wv with
  | none => exact hW
  | some cs =>
    obtain ⟨h1, h2⟩ := wRes_in h
    have hl := wl_len cs
    refine WF_write hW (by omega) (fun i hi => ?_)
    unfold wkd
    by_cases e : i < (wl cs).length
    · rw [if_pos e]
      have := (wl_in cs i e).2 h2
      by_cases e3 : ((wl cs).getD i (0, 0)).1 = 3
      · rw [if_pos e3]; decide
      · rw [if_neg e3]; omega
    · rw [if_neg e]
      exact hW.2.2.2 i hi
def wJ (sg : Nat) (wv : Nat → Int32) (F : Nat → Int32) (A : Nat → Nat → Int32) (F1 : Nat → Int32) (A1 : Nat → Nat → Int32) : Prop := wI sg wv F1 A1 ∧ sk_ F1 A1 ∧ F1 42 = -1 ∧ (∀ j, (j < 12 ∨ 42 < j) → F1 j = F j) ∧ ∀ j, (j < 16 ∨ 39 < j) → j ≠ 53 → A1 j = A j
theorem wJ_RI (hI : RI s F A B) (hJ : wJ sg wv F A F1 A1) : RI s F1 A1 B := by
  obtain ⟨⟨a1, a2⟩, b, c, d, ⟨e1, e2⟩, f1, f2⟩ := hI
  obtain ⟨w, sk, h42, hF, hA⟩ := hJ
  refine ⟨⟨⟨(hF 0 (by decide)).trans a1.1, a1.2⟩, fun u hu => ?_⟩, fun j hj => ?_, sk, ⟨-1, h42.trans (by decide), ⟨by omega, by omega⟩, fun u hu => by omega⟩, ⟨(hF 48 (by decide)).trans e1, fun f hf => ?_⟩, (hF 52 (by decide)).trans f1, fun i hi => ?_⟩
  · rw [hA 1 (by decide) (by decide), hA 2 (by decide) (by decide), hA 3 (by decide) (by decide), hA 4 (by decide) (by decide), hA 5 (by decide) (by decide)]
    exact a2 u hu
  · rw [hA 6 (by decide) (by decide), hA 7 (by decide) (by decide), hA 8 (by decide) (by decide), hA 9 (by decide) (by decide), hA 10 (by decide) (by decide), hA 11 (by decide) (by decide)]
    exact b j hj
  · rw [hA 49 (by decide) (by decide)]
    exact e2 f hf
  · rw [hA 51 (by decide) (by decide)]
    exact ⟨(f2 i hi).1, w.2.2.2.2.2.2.2.2 i hi⟩
theorem RI_wr (h : RI s F A B) (hF : ∀ j, j ≠ 52 → F' j = F j) (hA : ∀ j, j ≠ 51 → A' j = A j) (h52 : F' 52 = nI (wl cs).length) (h51 : ∀ j, j < 6 → A' 51 j = nI (wkd s cs j)) : RI (aWr s (some cs)) F' A' B := by
  obtain ⟨⟨a1, a2⟩, b, c, ⟨r, d1, d2, d3⟩, ⟨e1, e2⟩, f1, f2⟩ := h
  refine ⟨⟨⟨(hF 0 (by decide)).trans a1.1, a1.2⟩, fun u hu => ?_⟩, fun j hj => ?_, sk_x c (fun j h1 h2 => hF j (by omega)) (fun j h1 h2 => hA j (by omega)), ⟨r, (hF 42 (by decide)).trans d1, d2, fun u hu => ?_⟩, ⟨(hF 48 (by decide)).trans e1, fun f hf => ?_⟩, h52, fun i hi => ⟨h51 i hi, st1_eq (hA 17 (by decide)) (hA 18 (by decide)) (f2 i hi).2⟩⟩
  · rw [hA 1 (by decide), hA 2 (by decide), hA 3 (by decide), hA 4 (by decide), hA 5 (by decide)]
    exact a2 u hu
  · rw [hA 6 (by decide), hA 7 (by decide), hA 8 (by decide), hA 9 (by decide), hA 10 (by decide), hA 11 (by decide)]
    exact b j hj
  · obtain ⟨k1, N, k2⟩ := d3 u hu
    exact ⟨k1, N, rc_x k2 (fun j hj => hF j (by omega)) (fun j h1 h2 => hA j (by omega))⟩
  · rw [hA 49 (by decide)]
    exact e2 f hf
/-- what is found from turn t on -/
def wfd (sg n : Nat) (wv : Nat → Int32) (t : Nat) : Option (List Nat) := (wS ((SQ (n + 1) (ENr (List.replicate n (List.range 14)))).drop t)).find? (wok sg wv)
theorem wfd_e : wfd sg n wv ((n + 1) * 14 ^ n) = none := by
  unfold wfd
  rw [List.drop_eq_nil_of_le (by rw [SQ_len, ENr_l]; exact Nat.le_refl _)]
  rfl
theorem wfd_st {d k : Nat} (hd : d ≤ n) (hk : k < 14 ^ n) : wfd sg n wv (d * 14 ^ n + k) = (if oddN (dg n k) = d then dg n k :: wS ((SQ (n + 1) (ENr (List.replicate n (List.range 14)))).drop (d * 14 ^ n + (k + 1))) else wS ((SQ (n + 1) (ENr (List.replicate n (List.range 14)))).drop (d * 14 ^ n + (k + 1)))).find? (wok sg wv) := by
  have hp : 0 < 14 ^ n := by omega
  have hle : (d + 1) * 14 ^ n ≤ (n + 1) * 14 ^ n := Nat.mul_le_mul_right _ (by omega)
  rw [Nat.add_mul d, Nat.one_mul] at hle
  have ht : d * 14 ^ n + k < (n + 1) * 14 ^ n := by omega
  have hm : (d * 14 ^ n + k) % 14 ^ n = k := by rw [Nat.add_comm, Nat.add_mul_mod_self_right, Nat.mod_eq_of_lt hk]
  have hq : (d * 14 ^ n + k) / 14 ^ n = d := by rw [Nat.add_comm, Nat.add_mul_div_right _ _ hp, Nat.div_eq_of_lt hk, Nat.zero_add]
  have hat := SQ_at (m := n + 1) (t := d * 14 ^ n + k) (E := ENr (List.replicate n (List.range 14))) (cs := dg n k) (by rw [ENr_l]; exact hp) (by rw [ENr_l]; exact ht) (by rw [ENr_l, hm]; exact ENr_dg n k hk)
  rw [ENr_l, hq] at hat
  have hlt := get_lt hat
  have hel : (SQ (n + 1) (ENr (List.replicate n (List.range 14))))[d * 14 ^ n + k] = (d, dg n k) := by
    rw [List.getElem?_eq_getElem hlt] at hat
    exact Option.some.inj hat
  unfold wfd
  rw [List.drop_eq_getElem_cons hlt, hel, wS_cons]
  rfl
theorem wfd_s {d k : Nat} (hd : d ≤ n) (hk : k < 14 ^ n) (h : ¬ oddN (dg n k) = d) : wfd sg n wv (d * 14 ^ n + k) = wfd sg n wv (d * 14 ^ n + (k + 1)) := by
  rw [wfd_st hd hk, if_neg h]
  rfl
theorem wfd_n {d k : Nat} (hd : d ≤ n) (hk : k < 14 ^ n) (h : oddN (dg n k) = d) (hw : wok sg wv (dg n k) = false) : wfd sg n wv (d * 14 ^ n + k) = wfd sg n wv (d * 14 ^ n + (k + 1)) := by
  rw [wfd_st hd hk, if_pos h, List.find?_cons_of_neg (by rw [hw]; decide)]
  rfl
theorem wfd_y {d k : Nat} (hd : d ≤ n) (hk : k < 14 ^ n) (h : oddN (dg n k) = d) (hw : wok sg wv (dg n k) = true) : wfd sg n wv (d * 14 ^ n + k) = some (dg n k) := by
  rw [wfd_st hd hk, if_pos h, List.find?_cons_of_pos hw]
theorem wI_sk (hw : wI sg wv F A) (hly : lyr A (wl cs)) (h15 : F 15 = nI (wl cs).length) (hc : ∀ c ∈ cs, c < 14) (hl : cs.length ≤ 3) : sk_ F A := by
  obtain ⟨T, hT, hTd⟩ := hw.2.2.2.2.2.1
  obtain ⟨I, hI⟩ := hw.2.2.2.2.2.2.1
  obtain ⟨S, hS⟩ := hw.2.2.2.2.1
  exact ⟨wM A cs, sg, gd_ sg, T, I, S, wM_at hw hly h15 hc hl hT, hS, hTd, hI, hw.2.2.1, hw.2.2.2.1⟩
theorem wJ_lay (hJ : wJ sg wv F A F1 A1) (hF : ∀ j, j ≠ 15 → F2 j = F1 j) (hA : ∀ j, j ≠ 16 → j ≠ 17 → j ≠ 18 → A2 j = A1 j) (hst : ∀ i, i < 6 → st1 A2 i) (hly : lyr A2 (wl cs)) (h15 : F2 15 = nI (wl cs).length) (hc : ∀ c ∈ cs, c < 14) (hl : cs.length ≤ 3) : wJ sg wv F A F2 A2 := by
  obtain ⟨⟨⟨a1, a2⟩, a3, a4, ⟨V, a5⟩, ⟨S, a6⟩, ⟨T, a7, a7'⟩, ⟨I, a8⟩, a9, a10⟩, sk, h42, gF, gA⟩ := hJ
  have hw : wI sg wv F2 A2 := by
    refine ⟨⟨(hF 12 (by decide)).trans a1, a2⟩, (hF 13 (by decide)).trans a3, (hF 34 (by decide)).trans a4, ⟨V, fun j hj => ?_⟩, ⟨S, ?_⟩, ⟨T, fun i hi => ?_, a7'⟩, ⟨I, fun j hj => ?_⟩, fun k hk => ?_, hst⟩
    · rw [hA 38 (by decide) (by decide) (by decide)]; exact a5 j hj
    · unfold sc_at at a6 ⊢
      rw [hF 21 (by decide), hF 22 (by decide), hF 23 (by decide), hF 24 (by decide), hF 25 (by decide), hF 26 (by decide), hF 27 (by decide), hF 28 (by decide)]
      exact a6
    · rw [hA 19 (by decide) (by decide) (by decide)]; exact a7 i hi
    · rw [hA 20 (by decide) (by decide) (by decide)]; exact a8 j hj
    · rw [hA 53 (by decide) (by decide) (by decide)]; exact a9 k hk
  exact ⟨hw, wI_sk hw hly h15 hc hl, (hF 42 (by decide)).trans h42, fun j hj => (hF j (by omega)).trans (gF j hj), fun j hj h53 => (hA j (by omega) (by omega) (by omega)).trans (gA j hj h53)⟩
theorem wJ_ra (hJ : wJ sg wv F A F1 A1) (hF : ra_F F1 F2) (hA : ra_A A1 A2) (hw : wI sg wv F2 A2) (hly : lyr A1 (wl cs)) (h15 : F1 15 = nI (wl cs).length) (hc : ∀ c ∈ cs, c < 14) (hl : cs.length ≤ 3) : wJ sg wv F A F2 A2 ∧ lyr A2 (wl cs) ∧ F2 15 = nI (wl cs).length := by
  have hly2 : lyr A2 (wl cs) := by
    unfold lyr at hly ⊢
    rw [hA 16 (by decide) (by decide) (by decide), hA 17 (by decide) (by decide) (by decide), hA 18 (by decide) (by decide) (by decide)]
    exact hly
  have h152 : F2 15 = nI (wl cs).length := (hF 15 (by decide) (by decide) (by decide) (by decide)).trans h15
  obtain ⟨-, sk, h42, gF, gA⟩ := hJ
  exact ⟨⟨hw, wI_sk hw hly2 h152 hc hl, (hF 42 (by decide) (by decide) (by decide) (by decide)).trans h42, fun j hj => (hF j (by omega) (by omega) (by omega) (by omega)).trans (gF j hj), fun j hj h53 => (hA j (by omega) (by omega) (by omega)).trans (gA j hj h53)⟩, hly2, h152⟩
theorem wJ_b (hI : RI s F A B) (hs : sg < 16) (h42 : F1 42 = -1) (h12 : F1 12 = nI sg) (h13 : F1 13 = nI (gd_ sg)) (hF : ∀ j, j ≠ 42 → j ≠ 12 → j ≠ 13 → F1 j = F j) (h53 : ∀ k, k < 3 → A1 53 k = wv k) (hA : ∀ j, j ≠ 53 → A1 j = A j) : wJ sg wv F A F1 A1 := by
  obtain ⟨-, -, ⟨w, sg0, g, T, I, S, c1, c2, c3, c4, c5, V, c6⟩, -, -, -, f2⟩ := hI
  obtain ⟨⟨r1, r2, r3⟩, -, -, r6, r7⟩ := c1
  have hsc : sc_at F1 S := by
    unfold sc_at at c2 ⊢
    rw [hF 21 (by decide) (by decide) (by decide), hF 22 (by decide) (by decide) (by decide), hF 23 (by decide) (by decide) (by decide), hF 24 (by decide) (by decide) (by decide), hF 25 (by decide) (by decide) (by decide), hF 26 (by decide) (by decide) (by decide), hF 27 (by decide) (by decide) (by decide), hF 28 (by decide) (by decide) (by decide)]
    exact c2
  have htb : tb_at A1 T := fun i hi => by rw [hA 19 (by decide)]; exact r6 i hi
  have hiw : iw_at A1 I := fun j hj => by rw [hA 20 (by decide)]; exact c4 j hj
  have hvl : vl_ A1 := ⟨V, fun j hj => by rw [hA 38 (by decide)]; exact c6 j hj⟩
  have h34 : F1 34 = nI 0 := (hF 34 (by decide) (by decide) (by decide)).trans c5
  refine ⟨⟨⟨h12, hs⟩, h13, h34, hvl, ⟨S, hsc⟩, ⟨T, htb, c3⟩, ⟨I, hiw⟩, h53, fun i hi => st1_eq (hA 17 (by decide)) (hA 18 (by decide)) (f2 i hi).2⟩, ⟨w, sg, gd_ sg, T, I, S, ⟨⟨r1, (hF 15 (by decide) (by decide) (by decide)).trans r2, fun i hi => ?_⟩, ⟨h12, hs⟩, ⟨h13, gd_le sg hs⟩, htb, r7⟩, hsc, c3, hiw, h34, hvl⟩, h42, fun j hj => hF j (by omega) (by omega) (by omega), fun j hj h => hA j h⟩
  rw [hA 16 (by decide), hA 17 (by decide), hA 18 (by decide)]
  exact r3 i hi
end WRT
