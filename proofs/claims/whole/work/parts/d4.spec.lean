/-! the class: rows for values, one after the other -/
section WCF
theorem ENr_ap : ∀ (l : List (List Nat)) (f : List Nat) (k : Nat), 0 < (ENr l).length → 0 < f.length → (ENr (l ++ [f]))[k]? = ((ENr l)[k / f.length]?).bind (fun a => (f[k % f.length]?).map (fun c => a ++ [c]))
  | [], f, k, h0, hf => by
    show (f.flatMap (fun c => (ENr []).map (fun x => c :: x)))[k]? = (([[]] : List (List Nat))[k / f.length]?).bind (fun a => (f[k % f.length]?).map (fun c => a ++ [c]))
    rw [flm_at (E := ENr []) (by decide)]
    show (f[k / 1]?).bind (fun c => (([[]] : List (List Nat))[k % 1]?).map (fun x => c :: x)) = _
    rw [Nat.div_one, Nat.mod_one]
    by_cases h : k < f.length
    · rw [Nat.div_eq_of_lt h, Nat.mod_eq_of_lt h, List.getElem?_eq_getElem h]
      rfl
    · have h1 : 1 ≤ k / f.length := (Nat.le_div_iff_mul_le hf).mpr (by omega)
      obtain ⟨q, hq⟩ : ∃ q, k / f.length = q + 1 := ⟨k / f.length - 1, by omega⟩
      rw [List.getElem?_eq_none (show f.length ≤ k by omega), hq]
      rfl
  | g :: l, f, k, h0, hf => by
    have h1 : 0 < (ENr l).length := by
      rw [ENr_len] at h0
      exact Nat.pos_of_ne_zero (fun e => by rw [e, Nat.mul_zero] at h0; omega)
    have hE : (ENr (l ++ [f])).length = (ENr l).length * f.length := ENr_app l f
    show (g.flatMap (fun c => (ENr (l ++ [f])).map (fun x => c :: x)))[k]? = ((g.flatMap (fun c => (ENr l).map (fun x => c :: x)))[k / f.length]?).bind (fun a => (f[k % f.length]?).map (fun c => a ++ [c]))
    rw [flm_at (by rw [hE]; exact Nat.mul_pos h1 hf), flm_at h1, hE, Nat.div_div_eq_div_mul, Nat.mul_comm f.length (ENr l).length, ENr_ap l f _ h1 hf]
    have e1 : k % ((ENr l).length * f.length) / f.length = k / f.length % (ENr l).length := by rw [Nat.mul_comm, Nat.mod_mul_right_div_self]
    have e2 : k % ((ENr l).length * f.length) % f.length = k % f.length := Nat.mod_mod_of_dvd _ (Nat.dvd_mul_left _ _)
    rw [e1, e2]
    cases g[k / ((ENr l).length * f.length)]? with
    | none => rfl
    | some c =>
      cases (ENr l)[k / f.length % (ENr l).length]? with
      | none => rfl
      | some a =>
        cases f[k % f.length]? with
        | none => rfl
        | some d => rfl
/-- the rows that fit -/
def wE (sg n : Nat) (wv : Nat → Int32) : List (List Nat) := ENr ((List.range' 0 n).map (ftl sg wv))
theorem wE_len {sg n : Nat} {wv : Nat → Int32} : (wE sg n wv).length = rwN sg wv n := ENr_rw n
theorem rwN_pos {sg : Nat} {wv : Nat → Int32} {n : Nat} (h : 0 < rwN sg wv (n + 1)) : 0 < rwN sg wv n ∧ 0 < (ftl sg wv n).length := by
  have h : 0 < rwN sg wv n * (ftl sg wv n).length := h
  refine ⟨Nat.pos_of_ne_zero (fun e => ?_), Nat.pos_of_ne_zero (fun e => ?_)⟩
  · rw [e, Nat.zero_mul] at h; omega
  · rw [e, Nat.mul_zero] at h; omega
theorem wE_s {sg r k : Nat} {wv : Nat → Int32} {pre : List Nat} (h : (wE sg (r + 1) wv)[k]? = some pre) (h0 : 0 < rwN sg wv (r + 1)) : ∃ a c, pre = a ++ [c] ∧ (wE sg r wv)[k / (ftl sg wv r).length]? = some a ∧ (ftl sg wv r)[k % (ftl sg wv r).length]? = some c := by
  obtain ⟨h1, h2⟩ := rwN_pos h0
  unfold wE at h
  rw [List.range'_concat, List.map_append, List.map_singleton, Nat.zero_add, Nat.one_mul, ENr_ap _ _ _ (by rw [ENr_rw]; exact h1) h2] at h
  cases ha : (ENr ((List.range' 0 r).map (ftl sg wv)))[k / (ftl sg wv r).length]? with
  | none => rw [ha] at h; cases h
  | some a =>
    cases hc : (ftl sg wv r)[k % (ftl sg wv r).length]? with
    | none => rw [ha, hc] at h; cases h
    | some c =>
      rw [ha, hc] at h
      exact ⟨a, c, (Option.some.inj h).symm, ha, rfl⟩
theorem wE_mem {sg n : Nat} {wv : Nat → Int32} : ∀ {cs : List Nat}, cs ∈ wE sg n wv → cs.length = n ∧ ∀ c ∈ cs, c < 14 := by
  intro cs h
  have e : wE sg n wv = (ENr (List.replicate n (List.range 14))).filter (fitA (FT sg wv 0 n)) := by
    unfold wE
    rw [← FT_map, ENr_flt, FT_full]
  rw [e] at h
  exact ENr_mem n cs (List.mem_filter.mp h).1
theorem nI_m1 {r : Nat} : nI (r + 1) + (-1) = nI r := by
  have e : (-1 : Int32) = -(nI 1) := by decide
  have e2 : nI (r + 1) = nI r + nI 1 := Int32.ofNat_add r 1
  rw [e, e2, Int32.add_assoc, Int32.add_right_neg, Int32.add_zero]
theorem nI_m0 {r : Nat} : nI r - nI 1 = nI r + (-1) := by
  have e : (-1 : Int32) = -(nI 1) := by decide
  rw [e, Int32.sub_eq_add_neg]
theorem odd_c {c : Nat} {l : List Nat} : oddN (c :: l) = c % 2 + oddN l := by
  unfold oddN
  rw [List.map_cons, List.sum_cons]
/-- a row put down -/
def vl2 (X : Nat → Nat → Int32) (l : List (Nat × Nat)) : Prop := X 39 6 = nI l.length ∧ ∀ i, i < l.length → X 40 i = nI (l.getD i (0, 0)).1 ∧ X 41 i = (if (l.getD i (0, 0)).1 = 3 then -1 else nI (l.getD i (0, 0)).2) ∧ X 43 i = nI 0
theorem vl2_s {X X' : Nat → Nat → Int32} {l : List (Nat × Nat)} {t : Nat × Nat} (h : vl2 X l) (h6 : X' 39 6 = nI (l.length + 1)) (h4 : X' 40 l.length = nI t.1) (h5 : X' 41 l.length = if t.1 = 3 then -1 else nI t.2) (h7 : X' 43 l.length = nI 0) (e : ∀ b i, b ≠ 39 → i ≠ l.length → X' b i = X b i) : vl2 X' (l ++ [t]) := by
  refine ⟨by rw [List.length_append]; exact h6, fun i hi => ?_⟩
  rw [List.length_append] at hi
  have hi : i < l.length + 1 := hi
  by_cases c : i = l.length
  · rw [c, gdw_r (Nat.le_refl _), Nat.sub_self]
    exact ⟨h4, h5, h7⟩
  · rw [gdw_l (by omega), e 40 i (by decide) c, e 41 i (by decide) c, e 43 i (by decide) c]
    exact h.2 i (by omega)
theorem vl2_w {X : Nat → Nat → Int32} {cs : List Nat} (h : vl2 X (wl cs)) (hc : ∀ c ∈ cs, c < 14) (hl : cs.length ≤ 3) : vw_ X 36 (wW cs) := by
  have hlen := wl_len cs
  refine ⟨⟨h.1, by show (wl cs).length ≤ 24; omega⟩, fun i hi => ?_⟩
  have hi : i < (wl cs).length := hi
  obtain ⟨h1, h2⟩ := wl_in cs i hi
  obtain ⟨g1, g2, g3⟩ := h.2 i hi
  refine ⟨g1, ?_, g2, h2 hc, g3, fun _ => rfl⟩
  show 1 ≤ ((wl cs).getD i (0, 0)).1 ∧ ((wl cs).getD i (0, 0)).1 ≤ 3
  rcases h1 with z | z
  · rw [z]; decide
  · rw [z]; decide
/-- what is left to be tried from turn t on -/
def wT (sg n : Nat) (wv : Nat → Int32) (t : Nat) : List (List Nat) := wS ((SQ (n + 1) (wE sg n wv)).drop t)
theorem wT_e {sg n t : Nat} {wv : Nat → Int32} (h : (n + 1) * rwN sg wv n ≤ t) : wT sg n wv t = [] := by
  unfold wT
  rw [List.drop_eq_nil_of_le (by rw [SQ_len, wE_len]; exact h)]
  rfl
theorem wT_s {sg n t : Nat} {wv : Nat → Int32} {cs : List Nat} (h : t < (n + 1) * rwN sg wv n) (h0 : 0 < rwN sg wv n) (hc : (wE sg n wv)[t % rwN sg wv n]? = some cs) : wT sg n wv t = if oddN cs = t / rwN sg wv n then cs :: wT sg n wv (t + 1) else wT sg n wv (t + 1) := by
  have hat := SQ_at (m := n + 1) (t := t) (E := wE sg n wv) (cs := cs) (by rw [wE_len]; exact h0) (by rw [wE_len]; exact h) (by rw [wE_len]; exact hc)
  rw [wE_len] at hat
  have hlt := get_lt hat
  have hel : (SQ (n + 1) (wE sg n wv))[t] = (t / rwN sg wv n, cs) := by
    rw [List.getElem?_eq_getElem hlt] at hat
    exact Option.some.inj hat
  unfold wT
  rw [List.drop_eq_getElem_cons hlt, hel, wS_cons]
theorem wE_at {sg n k : Nat} {wv : Nat → Int32} (h : k < rwN sg wv n) : ∃ cs, (wE sg n wv)[k]? = some cs ∧ cs.length = n ∧ ∀ c ∈ cs, c < 14 := by
  have hk : k < (wE sg n wv).length := by rw [wE_len]; exact h
  refine ⟨(wE sg n wv)[k], List.getElem?_eq_getElem hk, ?_⟩
  exact wE_mem (List.getElem_mem hk)
theorem wRes_T {sg n : Nat} {wv : Nat → Int32} (hs : sg < 16) (hn : n ≤ 3) : wRes sg n wv = (wT sg n wv 0).find? (wok sg wv) := wRes_ft hs hn
/-- what reading says of a row that was put down -/
def wRd (X : Nat → Nat → Int32) (sg : Nat) (cs : List Nat) : Prop := (X 36 5 = nI 1001 ∧ 1000 < (rD (wW cs) sg).length) ∨ (X 36 5 = nI (rD (wW cs) sg).length ∧ (rD (wW cs) sg).length ≤ 1000 ∧ ((rD (wW cs) sg).length = 0 ∨ ∃ y, (rD (wW cs) sg)[0]? = some y ∧ ∀ i, i < (wl cs).length → X 38 i = nI (y.2.getD i 0)))
theorem dd_rf {w : ro_w} : dd_ w w := ⟨rfl, fun _ _ => rfl, fun _ _ _ => ⟨rfl, rfl⟩⟩
/-- the writer may do as it likes with its draft -/
theorem CI_wd {s : aS} {ST : Nat → Bool} {X X' : Nat → Nat → Int32} {Y Y' : Nat → Nat → Int64} {rl : Option Nat} (h : CI s ST X Y rl) (e : ∀ b i, b = 0 ∨ (b = 35 ∧ i = 9) ∨ (b = 36 ∧ i = 7) ∨ 50 ≤ b → X' b i = X b i) (ey : ∀ b i, 121 ≤ b → Y' b i = Y b i) : CI s ST X' Y' (some 36) := by
  obtain ⟨⟨h1, h2⟩, h3, h4, ⟨h5, h6⟩, h9, h10⟩ := h
  refine ⟨⟨(e _ _ (by omega)).trans h1, (e _ _ (by omega)).trans h2⟩, fun v hv => vcl_x (h3 v hv) (fun b i q1 q2 => e b i (by omega)), fun f hf => flw_x (h4 f hf) (fun b i q => e b i (by omega)) (fun b i q1 q2 => ey b i (by omega)), ⟨(e _ _ (by omega)).trans h5, fun i hi => (e _ _ (by omega)).trans (h6 i hi)⟩, oth_x h9 (e _ _ (by omega)) (e _ _ (by omega)), fun v hv r1 r2 r3 => ?_⟩
  have := Option.some.inj r1
  omega
theorem CI_wa {s : aS} {ST : Nat → Bool} {X X' : Nat → Nat → Int32} {Y : Nat → Nat → Int64} {rl : Option Nat} (h : CI s ST X Y rl) (e : ∀ b i, b < 35 ∨ (b = 35 ∧ i = 9) ∨ (b = 36 ∧ i = 7) ∨ 50 ≤ b → X' b i = X b i) : CI s ST X' Y rl := CI_sc h (h.2.2.2.2.1.2.elim (fun m hm => ⟨m, hm.1, (e _ _ (by omega)).trans hm.2⟩)) (fun b i q => e b i (by omega)) (fun _ _ _ => rfl)
theorem CI_wk {s : aS} {ST : Nat → Bool} {X X' : Nat → Nat → Int32} {Y : Nat → Nat → Int64} {rl : Option Nat} {cs : List Nat} (h : CI s ST X Y rl) (h9 : X' 35 9 = nI (wl cs).length) (h50 : ∀ i, i < 6 → X' 50 i = nI (wkd s cs i)) (e : ∀ b i, ¬ (b = 35 ∧ i = 9) → b ≠ 50 → X' b i = X b i) : CI (aWr s (some cs)) ST X' Y rl := by
  obtain ⟨⟨h1, h2⟩, h3, h4, ⟨h5, h6⟩, hot, h10⟩ := h
  refine ⟨⟨(e _ _ (by omega) (by omega)).trans h1, (e _ _ (by omega) (by omega)).trans h2⟩, fun v hv => vcl_o rfl rfl rfl Iff.rfl (fun _ => ⟨rfl, rfl⟩) (fun _ _ => ⟨rfl, rfl, rfl⟩) (vcl_x (h3 v hv) (fun b i q1 q2 => e b i (by omega) (by omega))), fun f hf => flw_x (h4 f hf) (fun b i q => e b i (by omega) (by omega)) (fun _ _ _ _ => rfl), ⟨h9, h50⟩, oth_x hot (e _ _ (by omega) (by omega)) (e _ _ (by omega) (by omega)), fun v hv r1 r2 r3 => kn_x (h10 v hv r1 r2 r3) (fun b i q => e b i (by omega) (by omega)) (fun _ => rfl)⟩
end WCF
