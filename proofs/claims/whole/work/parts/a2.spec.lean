/-! the class's state carried over -/
section CIX
variable {s : aS} {ST : Nat → Bool} {X X' : Nat → Nat → Int32} {Y Y' : Nat → Nat → Int64} {rl : Option Nat}
theorem rx2_x {a : Nat} {w : ro_w} {up dn : Nat} {pi : Nat → Int} {ua da : Nat → Nat} (h : rx2_ X a w up dn pi ua da) (e : ∀ b i, (b = a + 3 ∧ 6 < i) ∨ b = a + 6 ∨ b = a + 8 ∨ b = a + 9 → X' b i = X b i) : rx2_ X' a w up dn pi ua da := ⟨⟨(e _ _ (by omega)).trans h.1.1, (e _ _ (by omega)).trans h.1.2⟩, fun i hi => ⟨(e _ _ (by omega)).trans (h.2 i hi).1, (e _ _ (by omega)).trans (h.2 i hi).2.1, (e _ _ (by omega)).trans (h.2 i hi).2.2⟩⟩
theorem vk_x {a : Nat} {w : ro_w} {sg : Nat} (h : vk_ X a w sg) (e : ∀ i, X' a i = X a i) : vk_ X' a w sg := ⟨(e _).trans h.1, (e _).trans h.2.1, h.2.2.elim (fun u hu => ⟨u, (e _).trans hu.1, hu.2⟩)⟩
theorem vst_x {a : Nat} {w : ro_w} {sg pk : Nat} {st : Bool} (h : vst_ X a w sg pk st) (e : ∀ b i, b = a ∨ b = a + 2 → X' b i = X b i) : vst_ X' a w sg pk st := ⟨⟨(e _ _ (Or.inl rfl)).trans h.1.1, (e _ _ (Or.inl rfl)).trans h.1.2⟩, h.2.1, fun z => ⟨vk_x (h.2.2 z).1 (fun i => e _ _ (Or.inl rfl)), fun hl y hy i hi => (e _ _ (Or.inr rfl)).trans ((h.2.2 z).2 hl y hy i hi)⟩⟩
theorem vcl_x {v : Nat} {st : Bool} (h : vcl s X v st) (e : ∀ b i, 61 + 10 * v ≤ b → b ≤ 61 + 10 * v + 9 → X' b i = X b i) : vcl s X' v st := ⟨fun z => vs_s (h.1 z) (fun b i q => e b i (by omega) (by omega)), vw_s h.2.1 (fun b i q => e b i (by omega) (by omega)), rx2_x h.2.2.1 (fun b i q => e b i (by omega) (by omega)), vst_x h.2.2.2.1 (fun b i q => e b i (by omega) (by omega)), h.2.2.2.2⟩
theorem kn_x {a : Nat} {w : ro_w} {sg : Nat} (h : kn_ X Y w sg a) (e : ∀ b i, (5 ≤ b ∧ b ≤ 9 ∧ i = 0) ∨ (10 ≤ b ∧ b ≤ 24) ∨ (a ≤ b ∧ b ≤ a + 9 ∧ ¬ (b = a ∧ 4 < i) ∧ b ≠ a + 2 ∧ ¬ (b = a + 3 ∧ 6 < i)) → X' b i = X b i) (ey : ∀ i, Y' 21 i = Y 21 i) : kn_ X' Y' w sg a := by
  obtain ⟨dt, E, U, P, H, PL, RS, CO, AL, LI, ⟨hsp, hc, hw, hs⟩, hfo, hor⟩ := h
  refine ⟨dt, E, U, P, H, PL, RS, CO, AL, LI, ⟨spf_x hsp (fun b i z1 z2 => e b i (by omega)), ?_, vw_s hw (fun b i z => e b i (by omega)), vs_s hs (fun b i z => e b i (by omega))⟩, ⟨(e _ _ (by omega)).trans hfo.1, hfo.2.1, fun i x hx => ⟨(e _ _ (by omega)).trans (hfo.2.2 i x hx).1, fun v hv => (ey _).trans ((hfo.2.2 i x hx).2 v hv)⟩⟩, fun r hr => ?_⟩
  · obtain ⟨c1, c2, M, c3, c4⟩ := hc
    exact ⟨(e _ _ (by omega)).trans c1, (e _ _ (by omega)).trans c2, M, (e _ _ (by omega)).trans c3, c4⟩
  · obtain ⟨j, x, h1, h2⟩ := hor r hr
    exact ⟨j, x, (e _ _ (by omega)).trans h1, h2⟩
/-- scratch cells changed -/
theorem CI_sc (h : CI s ST X Y rl) (hm : ∃ m, m ≤ 24 ∧ X' 56 4 = nI m) (e : ∀ b i, b = 0 ∨ (5 ≤ b ∧ b ≤ 24) ∨ (b = 35 ∧ i = 9) ∨ (b = 36 ∧ i = 7) ∨ b = 50 ∨ 61 ≤ b → X' b i = X b i) (ey : ∀ b i, b = 21 ∨ 121 ≤ b → Y' b i = Y b i) : CI s ST X' Y' rl := by
  obtain ⟨⟨h1, h2⟩, h3, h4, ⟨h5, h6⟩, h7, h8⟩ := h
  exact ⟨⟨(e _ _ (by omega)).trans h1, (e _ _ (by omega)).trans h2⟩, fun v hv => vcl_x (h3 v hv) (fun b i q1 q2 => e b i (by omega)), fun f hf => flw_x (h4 f hf) (fun b i q => e b i (by omega)) (fun b i q1 q2 => ey b i (by omega)), ⟨(e _ _ (by omega)).trans h5, fun i hi => (e _ _ (by omega)).trans (h6 i hi)⟩, ⟨(e _ _ (by omega)).trans h7.1, hm⟩, fun v hv r1 r2 r3 => kn_x (h8 v hv r1 r2 r3) (fun b i q => e b i (by omega)) (fun i => ey _ _ (by omega))⟩
/-- a voice was read -/
theorem CI_rd {n : Nat} (hW : WF s) (h : CI s ST X Y rl) (hn : n < aNv s) (hst : ST n = true) (hrd : rdx (61 + 10 * n) true X X') (hY : ∀ b i, b ≠ 21 → Y' b i = Y b i) (h8 : X' (61 + 10 * n) 8 = nI 0) (hu : ∃ u, X' (61 + 10 * n) 6 = nI u ∧ fu_ (aW s n) (aSg s n) u) (h7 : X' (61 + 10 * n) 7 = nI 0) (hor : (X' (61 + 10 * n) 5 = nI 1001 ∧ 1000 < (RR (Br (aW s n) (aSg s n) (gd_ (aSg s n)) 0)).length) ∨ (X' (61 + 10 * n) 5 = nI (RR (Br (aW s n) (aSg s n) (gd_ (aSg s n)) 0)).length ∧ kn_ X' Y' (aW s n) (aSg s n) (61 + 10 * n) ∧ (Br (aW s n) (aSg s n) (gd_ (aSg s n)) 0 = [] ∨ ∃ y, bo_ (Br (aW s n) (aSg s n) (gd_ (aSg s n)) 0) = some y ∧ ∀ i, i < (aW s n).1 → X' (61 + 10 * n + 2) i = nI (y.2.1.2.getD i 0)))) : CI s (fun v => if v = n then false else ST v) X' Y' (some (61 + 10 * n)) := by
  obtain ⟨⟨h1, h2⟩, h3, h4, ⟨h5, h6⟩, h9, h10⟩ := h
  have hn6 : n < 6 := by have := hW.1.1; omega
  have hvok := hW.2.1 n hn6
  have hrk := vok_rk hvok
  have hlen := rD_len hrk
  refine ⟨⟨(hrd _ _ (by omega)).trans h1, (hrd _ _ (by omega)).trans h2⟩, fun v hv => ?_, fun f hf => flw_x (h4 f hf) (fun b i q => hrd b i (by omega)) (fun b i q1 q2 => hY b i (by omega)), ⟨(hrd _ _ (by omega)).trans h5, fun i hi => (hrd _ _ (by omega)).trans (h6 i hi)⟩, oth_x h9 (hrd _ _ (by omega)) (hrd _ _ (by omega)), fun v hv r1 r2 r3 => ?_⟩
  · by_cases e : v = n
    · subst e
      show vcl s X' v (if v = v then false else ST v)
      rw [if_pos rfl]
      obtain ⟨g1, g2, g3, g4, -⟩ := h3 v hv
      rw [hst] at g4
      have hpk := g4.2.1 rfl
      refine ⟨fun z => vs_s (g1 z) (fun b i q => hrd b i (by omega)), vw_s g2 (fun b i q => hrd b i (by omega)), rx2_x g3 (fun b i q => hrd b i (by omega)), ⟨⟨by rw [hpk]; exact h7, h8⟩, (fun z => by cases z), fun _ => ⟨⟨h8, ?_, hu⟩, fun hl y hy i hi => ?_⟩⟩, fun z => by omega⟩
      · unfold tot_
        rcases hor with ⟨q1, q2⟩ | ⟨q1, ⟨_, _, _, _, _, _, _, _, _, _, _, q2, _⟩, -⟩
        · rw [if_pos q2]; exact q1
        · rw [if_neg (by have := q2.2.1; omega)]; exact q1
      · rcases hor with ⟨q1, q2⟩ | ⟨q1, -, q3⟩
        · omega
        · rcases q3 with q3 | ⟨y2, q3, q4⟩
          · rw [rD_nil hrk q3] at hy; cases hy
          · have := bo_rD hrk q3
            rw [hpk, this] at hy
            have hy := Option.some.inj hy
            subst hy
            exact q4 i hi
    · show vcl s X' v (if v = n then false else ST v)
      rw [if_neg e]
      exact vcl_x (h3 v hv) (fun b i q1 q2 => hrd b i (by omega))
  · have e : v = n := by have := Option.some.inj r1; omega
    subst e
    rcases hor with ⟨q1, q2⟩ | ⟨q1, q2, -⟩
    · omega
    · exact q2
/-- a reading was made again -/
theorem CI_mk {n : Nat} (hW : WF s) (h : CI s ST X Y rl) (hn : n < aNv s) (hst : ST n = false) (hrd : rdx (61 + 10 * n) false X X') (hY : ∀ b i, b ≠ 21 → Y' b i = Y b i) (hvk : vk_ X' (61 + 10 * n) (aW s n) (aSg s n)) (hkn : kn_ X' Y' (aW s n) (aSg s n) (61 + 10 * n)) : CI s ST X' Y' (some (61 + 10 * n)) := by
  obtain ⟨⟨h1, h2⟩, h3, h4, ⟨h5, h6⟩, h9, h10⟩ := h
  have hn6 : n < 6 := by have := hW.1.1; omega
  refine ⟨⟨(hrd _ _ (by omega)).trans h1, (hrd _ _ (by omega)).trans h2⟩, fun v hv => ?_, fun f hf => flw_x (h4 f hf) (fun b i q => hrd b i (by omega)) (fun b i q1 q2 => hY b i (by omega)), ⟨(hrd _ _ (by omega)).trans h5, fun i hi => (hrd _ _ (by omega)).trans (h6 i hi)⟩, oth_x h9 (hrd _ _ (by omega)) (hrd _ _ (by omega)), fun v hv r1 r2 r3 => ?_⟩
  · by_cases e : v = n
    · subst e
      obtain ⟨g1, g2, g3, g4, g5⟩ := h3 v hv
      refine ⟨fun z => vs_s (g1 z) (fun b i q => hrd b i (by omega)), vw_s g2 (fun b i q => hrd b i (by omega)), rx2_x g3 (fun b i q => hrd b i (by omega)), ⟨⟨(hrd _ _ (Or.inr (Or.inr ⟨rfl, Or.inl ⟨rfl, rfl⟩⟩))).trans g4.1.1, by rw [hst]; exact hvk.1⟩, g4.2.1, fun z => ⟨hvk, fun hl y hy i hi => (hrd _ _ (Or.inr (Or.inr ⟨rfl, Or.inr rfl⟩))).trans ((g4.2.2 z).2 hl y hy i hi)⟩⟩, g5⟩
    · exact vcl_x (h3 v hv) (fun b i q1 q2 => hrd b i (by omega))
  · have e : v = n := by have := Option.some.inj r1; omega
    subst e
    exact hkn
end CIX
/-- an int is a number below n, or it isn't -/
theorem i32_or {v : Int32} (n : Nat) (hn : n < 2 ^ 31) : (∃ k, k < n ∧ v = nI k) ∨ (v < 0 ∨ nI n ≤ v) := by
  by_cases h0 : v < 0
  · exact Or.inr (Or.inl h0)
  · by_cases h1 : nI n ≤ v
    · exact Or.inr (Or.inr h1)
    · left
      have e0 : 0 ≤ v.toInt := by
        have : ¬ v.toInt < (0 : Int32).toInt := fun z => h0 (Int32.lt_iff_toInt_lt.mpr z)
        have e : (0 : Int32).toInt = 0 := by decide
        omega
      have e1 : v.toInt < n := by
        have : ¬ (nI n).toInt ≤ v.toInt := fun z => h1 (Int32.le_iff_toInt_le.mpr z)
        rw [nI_toInt hn] at this
        omega
      refine ⟨v.toInt.toNat, by omega, ?_⟩
      apply Int32.toInt_inj.mp
      rw [nI_toInt (by omega)]
      omega
