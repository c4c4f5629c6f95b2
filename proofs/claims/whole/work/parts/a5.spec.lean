/-! the class's cells change with the state -/
section CUP
variable {s : aS} {ST : Nat → Bool} {X X' : Nat → Nat → Int32} {Y : Nat → Nat → Int64} {rl : Option Nat}
theorem up_t {α : Type} {f : Nat → α} {v u : Nat} {x : α} (h : u ≠ v) : rm_up f v x u = f u := rm_up_n h
theorem CI_put {v so ki : Nat} {pi : Int} {co : Bool} (hW : WF s) (h : CI s ST X Y rl) (hv : v < aNv s) (hs : aSz s v < 24) (h1 : 1 ≤ so ∧ so ≤ 3) (h2 : ki < 7) (h4 : so ≠ 1 → co = false) (c1 : X' (61 + 10 * v + 4) (aSz s v) = nI so) (c2 : X' (61 + 10 * v + 5) (aSz s v) = if so = 3 then -1 else nI ki) (c3 : X' (61 + 10 * v + 6) (aSz s v) = if so = 1 then Int32.ofInt pi else -1) (c4 : X' (61 + 10 * v + 7) (aSz s v) = nI (Bool.toNat co)) (c5 : X' (61 + 10 * v + 8) (aSz s v) = X (61 + 10 * v + 3) 7) (c6 : X' (61 + 10 * v + 9) (aSz s v) = X (61 + 10 * v + 3) 8) (c7 : X' (61 + 10 * v + 3) 6 = nI (aSz s v + 1)) (c8 : X' (61 + 10 * v) 8 = nI 1) (c9 : X' (61 + 10 * v) 7 = nI 0) (e : ∀ b i, ¬ (61 + 10 * v + 4 ≤ b ∧ b ≤ 61 + 10 * v + 9 ∧ i = aSz s v) → ¬ (b = 61 + 10 * v + 3 ∧ i = 6) → ¬ (b = 61 + 10 * v ∧ (i = 7 ∨ i = 8)) → X' b i = X b i) : CI (aPut s v so ki pi co) (fun u => if u = v then true else ST u) X' Y rl := by
  have hv6 : v < 6 := by have := hW.1.1; omega
  refine CI_v hv6 h (fun b i n1 n2 => e b i (by omega) (by omega) (by omega)) ((e _ _ (by omega) (by omega) (by omega)).trans h.1.1) rfl (fun u hu hn => ?_) ?_ (fun _ z => by rw [if_pos rfl] at z; cases z)
  · have hz := (hW.2.1 u hu).1.2
    have hw := aW_put (so := so) (ki := ki) (pi := pi) (co := co) hn hs hz
    refine ⟨if_neg hn, hw, rfl, fun st hc => vcl_o hw rfl (up_t hn) Iff.rfl (fun _ => ⟨rfl, rfl⟩) (fun i hi => ?_) hc⟩
    have hi : i < aSz s u := hi
    exact ⟨up_t (by omega), up_t (by omega), up_t (by omega)⟩
  · show vcl _ X' v (if v = v then true else ST v)
    rw [if_pos rfl]
    obtain ⟨g1, g2, g3, g4, -⟩ := h.2.1 v hv6
    have q := fun i => aW_put_s (s := s) (v := v) (so := so) (ki := ki) (pi := pi) (co := co) (i := i)
    have w0 : (aW s v).1 = aSz s v := rfl
    refine ⟨fun z => vs_s (g1 hv) (fun b i z => e b i (by omega) (by omega) (by omega)), ⟨⟨by rw [(q 0).1]; exact c7, by rw [(q 0).1]; omega⟩, fun i hi => ?_⟩, ?_, ⟨⟨?_, c8⟩, fun _ => rm_up_s, fun z => by cases z⟩, fun _ => rfl⟩
    · rw [(q 0).1] at hi
      by_cases ei : i = aSz s v
      · rw [ei, (q 0).2.2.1, (q 0).2.2.2.1, (q 0).2.2.2.2]
        exact ⟨c1, h1, c2, h2, c4, h4⟩
      · obtain ⟨k1, k2, k3⟩ := (q i).2.1 (by omega)
        rw [k1, k2, k3]
        obtain ⟨f1, f2, f3, f4, f5, f6⟩ := g2.2 i (by rw [w0]; omega)
        exact ⟨(e _ _ (by omega) (by omega) (by omega)).trans f1, f2, (e _ _ (by omega) (by omega) (by omega)).trans f3, f4, (e _ _ (by omega) (by omega) (by omega)).trans f5, f6⟩
    · have hu : aNv (aPut s v so ki pi co) = aNv s := rfl
      rw [hu, if_pos hv, if_pos hv]
      rw [if_pos hv, if_pos hv] at g3
      refine ⟨⟨(e _ _ (by omega) (by omega) (by omega)).trans g3.1.1, (e _ _ (by omega) (by omega) (by omega)).trans g3.1.2⟩, fun i hi => ?_⟩
      rw [(q 0).1] at hi
      by_cases ei : i = aSz s v
      · subst ei
        rw [(q 0).2.2.1]
        unfold aPi aUa aDa aPut
        dsimp only
        rw [rm_up_s, rm_up_s, rm_up_s]
        exact ⟨c3, c5.trans g3.1.1, c6.trans g3.1.2⟩
      · rw [((q i).2.1 (by omega)).1]
        obtain ⟨f1, f2, f3⟩ := g3.2 i (by rw [w0]; omega)
        unfold aPi aUa aDa aPut
        dsimp only
        rw [rm_up_n (by omega), rm_up_n (by omega), rm_up_n (by omega)]
        exact ⟨(e _ _ (by omega) (by omega) (by omega)).trans f1, (e _ _ (by omega) (by omega) (by omega)).trans f2, (e _ _ (by omega) (by omega) (by omega)).trans f3⟩
    · rw [show aPk (aPut s v so ki pi co) v = 0 from rm_up_s]; exact c9
theorem aW_back_o {u v : Nat} (h : u ≠ v) : aW (aBack s v) u = aW s u := aW_ext (up_t h) (fun _ _ => ⟨rfl, rfl, rfl⟩)
theorem aW_back_s {v i : Nat} : (aW (aBack s v) v).1 = aSz s v - 1 ∧ (i < aSz s v - 1 → (aW (aBack s v) v).2.1 i = (aW s v).2.1 i ∧ (aW (aBack s v) v).2.2.1 i = (aW s v).2.2.1 i ∧ (aW (aBack s v) v).2.2.2 i = (aW s v).2.2.2 i) := by
  have e : aSz (aBack s v) v = aSz s v - 1 := rm_up_s
  refine ⟨e, fun hi => ?_⟩
  unfold aW
  dsimp only
  rw [e, if_pos hi, if_pos (by omega), if_pos hi, if_pos (by omega), if_pos hi, if_pos (by omega)]
  exact ⟨rfl, rfl, rfl⟩
theorem WF_back {v : Nat} (hW : WF s) (hv : v < aNv s) : WF (aBack s v) := by
  obtain ⟨w1, w2, w3, w4⟩ := hW
  refine ⟨w1, fun u hu => ?_, w3, w4⟩
  obtain ⟨a1, a2, a3, a4, a5, a6, a7⟩ := w2 u hu
  by_cases e : u = v
  · subst e
    have q := fun i => aW_back_s (s := s) (v := u) (i := i)
    have es : aSz (aBack s u) u = aSz s u - 1 := rm_up_s
    have w0 : (aW s u).1 = aSz s u := rfl
    refine ⟨⟨a1.1, by rw [es]; omega⟩, fun z => absurd hv (Nat.not_lt.mpr z), a3, fun i hi => ?_, ?_, fun p hp => ?_, Or.inl rm_up_s⟩
    · rw [es] at hi; exact a4 i (by omega)
    · by_cases c : 0 < aSz s u - 1
      · rw [ro_dot_ex (w := aW s u) (by rw [w0]; omega) (by rw [(q 0).1]; omega) ((q 0).2 c).1]; exact a5
      · exact ro_dot_f (by rw [(q 0).1]; omega)
    · by_cases c : p + 1 < aSz s u - 1
      · rw [ro_dot_ex (w := aW s u) (by rw [w0]; omega) (by rw [(q 0).1]; omega) ((q p).2 (by omega)).1] at hp
        rw [ro_dot_ex (w := aW s u) (by rw [w0]; omega) (by rw [(q 0).1]; omega) ((q (p + 1)).2 c).1]
        exact a6 p hp
      · exact ro_dot_f (by rw [(q 0).1]; omega)
  · have hw := aW_back_o (s := s) e
    have es : aSz (aBack s v) u = aSz s u := rm_up_n e
    have ep : aPk (aBack s v) u = aPk s u := rm_up_n e
    refine ⟨⟨a1.1, by rw [es]; exact a1.2⟩, fun z => ⟨es.trans (a2 z).1, ep.trans (a2 z).2⟩, a3, fun i hi => by rw [es] at hi; exact a4 i hi, by rw [hw]; exact a5, by rw [hw]; exact a6, ?_⟩
    rw [ep]
    unfold aR
    rw [hw]
    exact a7
theorem CI_back {v : Nat} (hW : WF s) (h : CI s ST X Y rl) (hv : v < aNv s) (hs : 0 < aSz s v) (c7 : X' (61 + 10 * v + 3) 6 = nI (aSz s v - 1)) (c8 : X' (61 + 10 * v) 8 = nI 1) (c9 : X' (61 + 10 * v) 7 = nI 0) (e : ∀ b i, ¬ (b = 61 + 10 * v + 3 ∧ i = 6) → ¬ (b = 61 + 10 * v ∧ (i = 7 ∨ i = 8)) → X' b i = X b i) : CI (aBack s v) (fun u => if u = v then true else ST u) X' Y rl := by
  have hv6 : v < 6 := by have := hW.1.1; omega
  refine CI_v hv6 h (fun b i n1 n2 => e b i (by omega) (by omega)) ((e _ _ (by omega) (by omega)).trans h.1.1) rfl (fun u hu hn => ?_) ?_ (fun _ z => by rw [if_pos rfl] at z; cases z)
  · have hw := aW_back_o (s := s) hn
    exact ⟨if_neg hn, hw, rfl, fun st hc => vcl_o hw rfl (up_t hn) Iff.rfl (fun _ => ⟨rfl, rfl⟩) (fun i hi => ⟨rfl, rfl, rfl⟩) hc⟩
  · show vcl _ X' v (if v = v then true else ST v)
    rw [if_pos rfl]
    obtain ⟨g1, g2, g3, g4, -⟩ := h.2.1 v hv6
    have hz := (hW.2.1 v hv6).1.2
    have q := fun i => aW_back_s (s := s) (v := v) (i := i)
    have w0 : (aW s v).1 = aSz s v := rfl
    refine ⟨fun z => vs_s (g1 hv) (fun b i z => e b i (by omega) (by omega)), ⟨⟨by rw [(q 0).1]; exact c7, by rw [(q 0).1]; omega⟩, fun i hi => ?_⟩, ?_, ⟨⟨?_, c8⟩, fun _ => rm_up_s, fun z => by cases z⟩, fun _ => rfl⟩
    · rw [(q 0).1] at hi
      obtain ⟨k1, k2, k3⟩ := (q i).2 hi
      rw [k1, k2, k3]
      obtain ⟨f1, f2, f3, f4, f5, f6⟩ := g2.2 i (by rw [w0]; omega)
      exact ⟨(e _ _ (by omega) (by omega)).trans f1, f2, (e _ _ (by omega) (by omega)).trans f3, f4, (e _ _ (by omega) (by omega)).trans f5, f6⟩
    · refine ⟨⟨(e _ _ (by omega) (by omega)).trans g3.1.1, (e _ _ (by omega) (by omega)).trans g3.1.2⟩, fun i hi => ?_⟩
      rw [(q 0).1] at hi
      rw [((q i).2 hi).1]
      obtain ⟨f1, f2, f3⟩ := g3.2 i (by rw [w0]; omega)
      exact ⟨(e _ _ (by omega) (by omega)).trans f1, (e _ _ (by omega) (by omega)).trans f2, (e _ _ (by omega) (by omega)).trans f3⟩
    · rw [show aPk (aBack s v) v = 0 from rm_up_s]; exact c9
theorem WF_prop {v up dn : Nat} (hW : WF s) (hu : 0 < up ∧ up ≤ 1000 ∧ up ∣ LL_) (hd : 0 < dn ∧ dn ≤ 1000) : WF (aProp s v up dn) := by
  obtain ⟨w1, w2, w3, w4⟩ := hW
  refine ⟨w1, fun u hu6 => ?_, w3, w4⟩
  obtain ⟨a1, a2, a3, a4, a5, a6, a7⟩ := w2 u hu6
  refine ⟨a1, a2, fun z => ?_, a4, a5, a6, a7⟩
  by_cases e : u = v
  · subst e
    show (0 < rm_up (aUp s) u up u ∧ rm_up (aUp s) u up u ≤ 1000 ∧ rm_up (aUp s) u up u ∣ LL_) ∧ 0 < rm_up (aDn s) u dn u ∧ rm_up (aDn s) u dn u ≤ 1000
    rw [rm_up_s, rm_up_s]
    exact ⟨hu, hd⟩
  · show (0 < rm_up (aUp s) v up u ∧ rm_up (aUp s) v up u ≤ 1000 ∧ rm_up (aUp s) v up u ∣ LL_) ∧ 0 < rm_up (aDn s) v dn u ∧ rm_up (aDn s) v dn u ≤ 1000
    rw [rm_up_n e, rm_up_n e]
    exact a3 z
theorem CI_prop {v up dn : Nat} (hW : WF s) (h : CI s ST X Y rl) (hv : v < aNv s) (c7 : X' (61 + 10 * v + 3) 7 = nI up) (c8 : X' (61 + 10 * v + 3) 8 = nI dn) (e : ∀ b i, ¬ (b = 61 + 10 * v + 3 ∧ (i = 7 ∨ i = 8)) → X' b i = X b i) : CI (aProp s v up dn) ST X' Y rl := by
  have hv6 : v < 6 := by have := hW.1.1; omega
  refine CI_v hv6 h (fun b i n1 n2 => e b i (by omega)) ((e _ _ (by omega)).trans h.1.1) rfl (fun u hu hn => ?_) ?_ (fun r1 r2 r3 => kn_x (h.2.2.2.2.2 v hv6 r1 r2 r3) (fun b i q => e b i (by omega)) (fun _ => rfl))
  · exact ⟨rfl, rfl, rfl, fun st hc => vcl_o (s := s) rfl rfl rfl Iff.rfl (fun _ => ⟨up_t hn, up_t hn⟩) (fun i hi => ⟨rfl, rfl, rfl⟩) hc⟩
  · obtain ⟨g1, g2, g3, g4, g5⟩ := h.2.1 v hv6
    refine ⟨fun z => vs_s (g1 hv) (fun b i z => e b i (by omega)), vw_s g2 (fun b i z => e b i (by omega)), ?_, vst_x g4 (fun b i z => e b i (by omega)), g5⟩
    have hu : aNv (aProp s v up dn) = aNv s := rfl
    rw [hu, if_pos hv, if_pos hv]
    refine ⟨⟨?_, ?_⟩, fun i hi => ?_⟩
    · rw [c7]; exact congrArg nI rm_up_s.symm
    · rw [c8]; exact congrArg nI rm_up_s.symm
    · obtain ⟨f1, f2, f3⟩ := g3.2 i hi
      exact ⟨(e _ _ (by omega)).trans f1, (e _ _ (by omega)).trans f2, (e _ _ (by omega)).trans f3⟩
theorem WF_pick {v r : Nat} (hW : WF s) (hv : v < aNv s) (hr : r < (aR s v).length) : WF (aPick s v r) := by
  obtain ⟨w1, w2, w3, w4⟩ := hW
  refine ⟨w1, fun u hu => ?_, w3, w4⟩
  obtain ⟨a1, a2, a3, a4, a5, a6, a7⟩ := w2 u hu
  by_cases e : u = v
  · subst e
    refine ⟨a1, fun z => absurd hv (Nat.not_lt.mpr z), a3, a4, a5, a6, Or.inr ?_⟩
    rw [show aPk (aPick s u r) u = r from rm_up_s]
    exact hr
  · have ep : aPk (aPick s v r) u = aPk s u := rm_up_n e
    refine ⟨a1, fun z => ⟨(a2 z).1, ep.trans (a2 z).2⟩, a3, a4, a5, a6, ?_⟩
    rw [ep]
    exact a7
theorem CI_pick {v r : Nat} {y : gR} (hW : WF s) (h : CI s ST X Y rl) (hv : v < aNv s) (hst : ST v = false) (hy : (aR s v)[r]? = some y) (c7 : X' (61 + 10 * v) 7 = nI r) (c2 : ∀ i, i < aSz s v → X' (61 + 10 * v + 2) i = nI (y.2.getD i 0)) (e : ∀ b i, ¬ (b = 61 + 10 * v ∧ i = 7) → b ≠ 61 + 10 * v + 2 → X' b i = X b i) : CI (aPick s v r) ST X' Y rl := by
  have hv6 : v < 6 := by have := hW.1.1; omega
  refine CI_v hv6 h (fun b i n1 n2 => e b i (by omega) (by omega)) ((e _ _ (by omega) (by omega)).trans h.1.1) rfl (fun u hu hn => ?_) ?_ (fun r1 r2 r3 => kn_x (h.2.2.2.2.2 v hv6 r1 r2 r3) (fun b i q => e b i (by omega) (by omega)) (fun _ => rfl))
  · exact ⟨rfl, rfl, rfl, fun st hc => vcl_o (s := s) rfl rfl (up_t hn) Iff.rfl (fun _ => ⟨rfl, rfl⟩) (fun i hi => ⟨rfl, rfl, rfl⟩) hc⟩
  · obtain ⟨g1, g2, g3, g4, g5⟩ := h.2.1 v hv6
    rw [hst] at g4 g5 ⊢
    have hvk := (g4.2.2 rfl).1
    refine ⟨fun z => vs_s (g1 hv) (fun b i z => e b i (by omega) (by omega)), vw_s g2 (fun b i z => e b i (by omega) (by omega)), rx2_x g3 (fun b i z => e b i (by omega) (by omega)), ⟨⟨?_, (e _ _ (by omega) (by omega)).trans g4.1.2⟩, fun z => (by cases z), fun _ => ⟨⟨(e _ _ (by omega) (by omega)).trans hvk.1, (e _ _ (by omega) (by omega)).trans hvk.2.1, hvk.2.2.elim (fun u hu => ⟨u, (e _ _ (by omega) (by omega)).trans hu.1, hu.2⟩)⟩, fun hl y' hy' i hi => ?_⟩⟩, g5⟩
    · rw [c7]; exact congrArg nI rm_up_s.symm
    · rw [show aPk (aPick s v r) v = r from rm_up_s] at hy'
      have hy2 : (rD (aW s v) (aSg s v))[r]? = some y := hy
      have hy3 : (rD (aW s v) (aSg s v))[r]? = some y' := hy'
      rw [hy2] at hy3
      have := Option.some.inj hy3
      subst this
      exact c2 i hi
theorem WF_voice {sg : Nat} (hW : WF s) (hn : aNv s < 6) (hg : sg < 16) : WF (aVoice s sg) := by
  obtain ⟨w1, w2, w3, w4⟩ := hW
  refine ⟨⟨by show aNv s + 1 ≤ 6; omega, w1.2⟩, fun u hu => ?_, w3, w4⟩
  obtain ⟨a1, a2, a3, a4, a5, a6, a7⟩ := w2 u hu
  have hnv : aNv (aVoice s sg) = aNv s + 1 := rfl
  by_cases e : u = aNv s
  · have hz := a2 (by omega)
    refine ⟨⟨?_, a1.2⟩, fun z => hz, fun z => ?_, a4, a5, a6, Or.inl hz.2⟩
    · show rm_up (aSg s) (aNv s) sg u < 16
      rw [e, rm_up_s]; exact hg
    · show (0 < rm_up (aUp s) (aNv s) 1 u ∧ rm_up (aUp s) (aNv s) 1 u ≤ 1000 ∧ rm_up (aUp s) (aNv s) 1 u ∣ LL_) ∧ 0 < rm_up (aDn s) (aNv s) 1 u ∧ rm_up (aDn s) (aNv s) 1 u ≤ 1000
      rw [e, rm_up_s, rm_up_s]
      exact ⟨⟨by decide, by decide, ⟨_, (Nat.one_mul _).symm⟩⟩, by decide, by decide⟩
  · refine ⟨⟨?_, a1.2⟩, fun z => a2 (by rw [hnv] at z; omega), fun z => ?_, a4, a5, a6, ?_⟩
    · show rm_up (aSg s) (aNv s) sg u < 16
      rw [rm_up_n e]; exact a1.1
    · show (0 < rm_up (aUp s) (aNv s) 1 u ∧ rm_up (aUp s) (aNv s) 1 u ≤ 1000 ∧ rm_up (aUp s) (aNv s) 1 u ∣ LL_) ∧ 0 < rm_up (aDn s) (aNv s) 1 u ∧ rm_up (aDn s) (aNv s) 1 u ≤ 1000
      rw [rm_up_n e, rm_up_n e]
      exact a3 (by rw [hnv] at z; omega)
    · have : aR (aVoice s sg) u = aR s u := by
        show rD (aW s u) (rm_up (aSg s) (aNv s) sg u) = _
        rw [rm_up_n e]
        rfl
      rw [this]
      exact a7
theorem CI_voice {sg : Nat} (hW : WF s) (h : CI s ST X Y rl) (hn : aNv s < 6) (hvs : vs_ X' (61 + 10 * aNv s) sg) (h0 : X' 0 6 = nI (aNv s + 1)) (e : ∀ b i, ¬ (b = 61 + 10 * aNv s ∧ (i = 3 ∨ i = 4)) → b ≠ 61 + 10 * aNv s + 1 → ¬ (b = 0 ∧ i = 6) → X' b i = X b i) : CI (aVoice s sg) ST X' Y rl := by
  have hnv : aNv (aVoice s sg) = aNv s + 1 := rfl
  obtain ⟨g1, g2, g3, g4, g5⟩ := h.2.1 (aNv s) hn
  have hst := g5 (Nat.le_refl _)
  refine CI_v (v := aNv s) hn h (fun b i n1 n2 => e b i (by omega) (by omega) (by omega)) h0 rfl (fun u hu hne => ?_) ?_ (fun _ z => by rw [hst] at z; cases z)
  · refine ⟨rfl, rfl, rm_up_n hne, fun st hc => vcl_o (s := s) rfl (rm_up_n hne) rfl (by rw [hnv]; omega) (fun _ => ⟨rm_up_n hne, rm_up_n hne⟩) (fun i hi => ⟨rfl, rfl, rfl⟩) hc⟩
  · rw [hst] at g4 ⊢
    refine ⟨fun z => ?_, vw_s g2 (fun b i z => e b i (by omega) (by omega) (by omega)), ?_, ⟨⟨(e _ _ (by omega) (by omega) (by omega)).trans g4.1.1, (e _ _ (by omega) (by omega) (by omega)).trans g4.1.2⟩, g4.2.1, fun z => by cases z⟩, fun _ => rfl⟩
    · rw [show aSg (aVoice s sg) (aNv s) = sg from rm_up_s]; exact hvs
    · rw [hnv, if_pos (by omega), if_pos (by omega), show aUp (aVoice s sg) (aNv s) = 1 from rm_up_s, show aDn (aVoice s sg) (aNv s) = 1 from rm_up_s]
      rw [if_neg (by omega), if_neg (by omega)] at g3
      exact rx2_x g3 (fun b i z => e b i (by omega) (by omega) (by omega))
theorem WF_canon {l : List fE} (hW : WF s) (hn : aNf s < 6) (hl : l.length ≤ 24) : WF (aCanon s l) := by
  obtain ⟨w1, w2, w3, w4⟩ := hW
  refine ⟨⟨w1.1, by show aNf s + 1 ≤ 6; omega, w1.2.2⟩, w2, fun f hf => ?_, w4⟩
  show (rm_up (aFl s) (aNf s) l f).length ≤ 24 ∧ (aNf s + 1 ≤ f → rm_up (aFl s) (aNf s) l f = [])
  by_cases e : f = aNf s
  · rw [e, rm_up_s]
    exact ⟨hl, fun z => by omega⟩
  · rw [rm_up_n e]
    exact ⟨(w3 f hf).1, fun z => (w3 f hf).2 (by omega)⟩
theorem CI_canon {l : List fE} {Y' : Nat → Nat → Int64} (h : CI s ST X Y rl) (hn : aNf s < 6) (h0 : X' 0 7 = nI (aNf s + 1)) (hfl : flw_ X' Y' (121 + 8 * aNf s) l) (e : ∀ b i, ¬ (b = 0 ∧ i = 7) → ¬ (b = 121 + 8 * aNf s ∧ i = 7) → b ≠ 121 + 8 * aNf s + 1 → X' b i = X b i) (ey : ∀ b i, ¬ (121 + 8 * aNf s + 2 ≤ b ∧ b ≤ 121 + 8 * aNf s + 7) → Y' b i = Y b i) : CI (aCanon s l) ST X' Y' rl := by
  obtain ⟨⟨h1, h2⟩, h3, h4, ⟨h5, h6⟩, h7, h8⟩ := h
  refine ⟨⟨(e _ _ (by omega) (by omega) (by omega)).trans h1, h0⟩, fun v hv => vcl_x (X := X) (h3 v hv) (fun b i q1 q2 => e b i (by omega) (by omega) (by omega)), fun f hf => ?_, ⟨(e _ _ (by omega) (by omega) (by omega)).trans h5, fun i hi => (e _ _ (by omega) (by omega) (by omega)).trans (h6 i hi)⟩, oth_x h7 (e _ _ (by omega) (by omega) (by omega)) (e _ _ (by omega) (by omega) (by omega)), fun v hv r1 r2 r3 => kn_x (h8 v hv r1 r2 r3) (fun b i q => e b i (by omega) (by omega) (by omega)) (fun i => ey _ _ (by omega))⟩
  show flw_ X' Y' (121 + 8 * f) (rm_up (aFl s) (aNf s) l f)
  by_cases q : f = aNf s
  · rw [q, rm_up_s]; exact hfl
  · rw [rm_up_n q]
    exact flw_x (h4 f hf) (fun b i q => e b i (by omega) (by omega) (by omega)) (fun b i q1 q2 => ey b i (by omega))
theorem WF_write {n : Nat} {wk : Nat → Nat} (hW : WF s) (hn : n ≤ 6) (hk : ∀ i, i < 6 → wk i ≤ 7) : WF (aWrite s n wk) := ⟨⟨hW.1.1, hW.1.2.1, hn⟩, hW.2.1, hW.2.2.1, hk⟩
end CUP
