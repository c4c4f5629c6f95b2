/-! how the state changes -/
section AUP
def aPut (s : aS) (v so ki : Nat) (pi : Int) (co : Bool) : aS := ((aNv s, aSg s, rm_up (aSz s) v (aSz s v + 1), aUp s, aDn s, rm_up (aPk s) v 0), (rm_up (aSo s) (24 * v + aSz s v) so, rm_up (aKi s) (24 * v + aSz s v) ki, rm_up (aPi s) (24 * v + aSz s v) pi, rm_up (aCo s) (24 * v + aSz s v) co, rm_up (aUa s) (24 * v + aSz s v) (aUp s v), rm_up (aDa s) (24 * v + aSz s v) (aDn s v)), s.2.2)
def aBack (s : aS) (v : Nat) : aS := ((aNv s, aSg s, rm_up (aSz s) v (aSz s v - 1), aUp s, aDn s, rm_up (aPk s) v 0), s.2)
def aProp (s : aS) (v up dn : Nat) : aS := ((aNv s, aSg s, aSz s, rm_up (aUp s) v up, rm_up (aDn s) v dn, aPk s), s.2)
def aPick (s : aS) (v r : Nat) : aS := ((aNv s, aSg s, aSz s, aUp s, aDn s, rm_up (aPk s) v r), s.2)
def aVoice (s : aS) (sg : Nat) : aS := ((aNv s + 1, rm_up (aSg s) (aNv s) sg, aSz s, rm_up (aUp s) (aNv s) 1, rm_up (aDn s) (aNv s) 1, aPk s), s.2)
def aCanon (s : aS) (l : List fE) : aS := (s.1, s.2.1, (aNf s + 1, rm_up (aFl s) (aNf s) l), s.2.2.2)
def aWrite (s : aS) (n : Nat) (wk : Nat → Nat) : aS := (s.1, s.2.1, s.2.2.1, (n, wk))
variable {s : aS}
theorem aW_ext {s s' : aS} {v : Nat} (h1 : aSz s' v = aSz s v) (h2 : ∀ i, i < aSz s v → aSo s' (24 * v + i) = aSo s (24 * v + i) ∧ aKi s' (24 * v + i) = aKi s (24 * v + i) ∧ aCo s' (24 * v + i) = aCo s (24 * v + i)) : aW s' v = aW s v := by
  unfold aW
  rw [h1]
  congr 1
  congr 1
  · funext i
    by_cases c : i < aSz s v
    · rw [if_pos c, if_pos c, (h2 i c).1]
    · rw [if_neg c, if_neg c]
  · congr 1
    · funext i
      by_cases c : i < aSz s v
      · rw [if_pos c, if_pos c, (h2 i c).2.1]
      · rw [if_neg c, if_neg c]
    · funext i
      by_cases c : i < aSz s v
      · rw [if_pos c, if_pos c, (h2 i c).2.2]
      · rw [if_neg c, if_neg c]
theorem aW_put {v v' so ki : Nat} {pi : Int} {co : Bool} (h : v' ≠ v) (hs : aSz s v < 24) (hs' : aSz s v' ≤ 24) : aW (aPut s v so ki pi co) v' = aW s v' := aW_ext (rm_up_n h) (fun i hi => ⟨rm_up_n (by omega), rm_up_n (by omega), rm_up_n (by omega)⟩)
theorem aW_put_s {v so ki : Nat} {pi : Int} {co : Bool} {i : Nat} : (aW (aPut s v so ki pi co) v).1 = aSz s v + 1 ∧ (i < aSz s v → (aW (aPut s v so ki pi co) v).2.1 i = (aW s v).2.1 i ∧ (aW (aPut s v so ki pi co) v).2.2.1 i = (aW s v).2.2.1 i ∧ (aW (aPut s v so ki pi co) v).2.2.2 i = (aW s v).2.2.2 i) ∧ (aW (aPut s v so ki pi co) v).2.1 (aSz s v) = so ∧ (aW (aPut s v so ki pi co) v).2.2.1 (aSz s v) = ki ∧ (aW (aPut s v so ki pi co) v).2.2.2 (aSz s v) = co := by
  have e : aSz (aPut s v so ki pi co) v = aSz s v + 1 := rm_up_s
  refine ⟨e, fun hi => ?_, ?_⟩
  · unfold aW
    dsimp only
    rw [e, if_pos (by omega), if_pos hi, if_pos (by omega), if_pos hi, if_pos (by omega), if_pos hi]
    exact ⟨rm_up_n (by omega), rm_up_n (by omega), rm_up_n (by omega)⟩
  · unfold aW
    dsimp only
    rw [e, if_pos (by omega), if_pos (by omega), if_pos (by omega)]
    exact ⟨rm_up_s, rm_up_s, rm_up_s⟩
theorem ro_dot_i {w : ro_w} {i : Nat} : ro_dot w i = (decide (i < w.1) && decide (w.2.1 i = 3)) := rfl
theorem ro_dot_ex {w w' : ro_w} {q : Nat} (h : q < w.1) (h' : q < w'.1) (e : w'.2.1 q = w.2.1 q) : ro_dot w' q = ro_dot w q := by
  rw [ro_dot_i, ro_dot_i, e, decide_eq_true h, decide_eq_true h']
theorem ro_dot_f {w : ro_w} {q : Nat} (h : w.1 ≤ q) : ro_dot w q = false := by
  rw [ro_dot_i, decide_eq_false (by omega)]
  rfl
theorem WF_put {v so ki : Nat} {pi : Int} {co : Bool} (hW : WF s) (hv : v < aNv s) (hs : aSz s v < 24) (h1 : 1 ≤ so ∧ so ≤ 3) (h2 : ki < 7) (h3 : -40 ≤ pi ∧ pi ≤ 40) (h4 : so ≠ 1 → co = false) (h5 : so = 3 → aSz s v ≠ 0 ∧ aSo s (24 * v + (aSz s v - 1)) ≠ 3) : WF (aPut s v so ki pi co) := by
  obtain ⟨w1, w2, w3, w4⟩ := hW
  have hv6 : v < 6 := by omega
  refine ⟨w1, fun v' hv' => ?_, w3, w4⟩
  by_cases e : v' = v
  · subst e
    obtain ⟨a1, a2, a3, a4, a5, a6, a7⟩ := w2 v' hv'
    have q := aW_put_s (s := s) (v := v') (so := so) (ki := ki) (pi := pi) (co := co) (i := 0)
    have qi := fun i => (aW_put_s (s := s) (v := v') (so := so) (ki := ki) (pi := pi) (co := co) (i := i)).2.1
    have es : aSz (aPut s v' so ki pi co) v' = aSz s v' + 1 := rm_up_s
    have w0 : (aW s v').1 = aSz s v' := rfl
    refine ⟨⟨a1.1, by rw [es]; omega⟩, fun z => absurd hv (Nat.not_lt.mpr z), a3, fun i hi => ?_, ?_, fun p hp => ?_, Or.inl rm_up_s⟩
    · rw [es] at hi
      by_cases ei : i = aSz s v'
      · subst ei
        have b := a3 hv
        unfold yok aPut aSo aKi aPi aCo aUa aDa
        dsimp only
        rw [rm_up_s, rm_up_s, rm_up_s, rm_up_s, rm_up_s, rm_up_s]
        exact ⟨h1, h2, h3, h4, b.1, b.2.2⟩
      · have := a4 i (by omega)
        unfold yok aPut
        unfold aSo aKi aPi aCo aUa aDa
        dsimp only
        rw [rm_up_n (by omega), rm_up_n (by omega), rm_up_n (by omega), rm_up_n (by omega), rm_up_n (by omega), rm_up_n (by omega)]
        exact this
    · by_cases z : aSz s v' = 0
      · rw [ro_dot_i]
        have := q.2.2.1
        rw [z] at this
        rw [this, decide_eq_false (fun e3 => absurd z (h5 e3).1), Bool.and_false]
      · rw [ro_dot_ex (w := aW s v') (by rw [w0]; omega) (by rw [q.1]; omega) (qi 0 (by omega)).1]
        exact a5
    · by_cases c : p + 1 < aSz s v'
      · rw [ro_dot_ex (w := aW s v') (by rw [w0]; omega) (by rw [q.1]; omega) (qi p (by omega)).1] at hp
        rw [ro_dot_ex (w := aW s v') (by rw [w0]; omega) (by rw [q.1]; omega) (qi (p + 1) (by omega)).1]
        exact a6 p hp
      · by_cases c2 : p + 1 = aSz s v'
        · rw [ro_dot_ex (w := aW s v') (by rw [w0]; omega) (by rw [q.1]; omega) (qi p (by omega)).1, ro_dot_i, Bool.and_eq_true, decide_eq_true_eq, decide_eq_true_eq] at hp
          rw [ro_dot_i, c2, q.2.2.1]
          by_cases e3 : so = 3
          · exfalso
            have := (h5 e3).2
            have hp2 : (if p < aSz s v' then aSo s (24 * v' + p) else 0) = 3 := hp.2
            rw [if_pos (by omega), show p = aSz s v' - 1 from by omega] at hp2
            exact this hp2
          · rw [decide_eq_false e3, Bool.and_false]
        · exact ro_dot_f (by rw [q.1]; omega)
  · obtain ⟨a1, a2, a3, a4, a5, a6, a7⟩ := w2 v' hv'
    have hw : aW (aPut s v so ki pi co) v' = aW s v' := aW_put e hs a1.2
    have es : aSz (aPut s v so ki pi co) v' = aSz s v' := rm_up_n e
    have ep : aPk (aPut s v so ki pi co) v' = aPk s v' := rm_up_n e
    refine ⟨⟨a1.1, by rw [es]; exact a1.2⟩, fun z => ⟨es.trans (a2 z).1, ep.trans (a2 z).2⟩, a3, fun i hi => ?_, by rw [hw]; exact a5, by rw [hw]; exact a6, ?_⟩
    · rw [es] at hi
      have := a4 i hi
      have := a1.2
      unfold yok aPut
      unfold aSo aKi aPi aCo aUa aDa
      dsimp only
      rw [rm_up_n (by omega), rm_up_n (by omega), rm_up_n (by omega), rm_up_n (by omega), rm_up_n (by omega), rm_up_n (by omega)]
      exact a4 i hi
    · rw [ep]
      unfold aR
      rw [hw]
      exact a7
/-- all but voice v and the counts stay -/
theorem CI_v {s s' : aS} {ST ST' : Nat → Bool} {X X' : Nat → Nat → Int32} {Y : Nat → Nat → Int64} {rl : Option Nat} {v : Nat} (hv : v < 6) (h : CI s ST X Y rl) (e : ∀ b i, ¬ (61 + 10 * v ≤ b ∧ b ≤ 61 + 10 * v + 9) → ¬ (b = 0 ∧ i = 6) → X' b i = X b i) (h0 : X' 0 6 = nI (aNv s')) (e2 : s'.2.2 = s.2.2) (e3 : ∀ u, u < 6 → u ≠ v → ST' u = ST u ∧ aW s' u = aW s u ∧ aSg s' u = aSg s u ∧ ∀ st, vcl s X u st → vcl s' X u st) (hvcl : vcl s' X' v (ST' v)) (hkn : rl = some (61 + 10 * v) → ST' v = false → (rD (aW s' v) (aSg s' v)).length ≤ 1000 → kn_ X' Y (aW s' v) (aSg s' v) (61 + 10 * v)) : CI s' ST' X' Y rl := by
  obtain ⟨⟨h1, h2⟩, h3, h4, ⟨h5, h6⟩, h7, h8⟩ := h
  have f1 : aNf s' = aNf s := congrArg (fun z => z.1.1) e2
  have f2 : aFl s' = aFl s := congrArg (fun z => z.1.2) e2
  have f3 : aNw s' = aNw s := congrArg (fun z => z.2.1) e2
  have f4 : aWk s' = aWk s := congrArg (fun z => z.2.2) e2
  refine ⟨⟨h0, by rw [f1]; exact (e _ _ (by omega) (by omega)).trans h2⟩, fun u hu => ?_, fun f hf => by rw [f2]; exact flw_x (h4 f hf) (fun b i q => e b i (by omega) (by omega)) (fun _ _ _ _ => rfl), ⟨by rw [f3]; exact (e _ _ (by omega) (by omega)).trans h5, fun i hi => by rw [f4]; exact (e _ _ (by omega) (by omega)).trans (h6 i hi)⟩, oth_x h7 (e _ _ (by omega) (by omega)) (e _ _ (by omega) (by omega)), fun u hu r1 r2 r3 => ?_⟩
  · by_cases q : u = v
    · subst q; exact hvcl
    · obtain ⟨g1, g2, g3, g4⟩ := e3 u hu q
      rw [g1]
      exact vcl_x (g4 _ (h3 u hu)) (fun b i q1 q2 => e b i (by omega) (by omega))
  · by_cases q : u = v
    · subst q; exact hkn r1 r2 r3
    · obtain ⟨g1, g2, g3, g4⟩ := e3 u hu q
      rw [g2, g3] at r3 ⊢
      rw [g1] at r2
      exact kn_x (h8 u hu r1 r2 r3) (fun b i q => e b i (by omega) (by omega)) (fun _ => rfl)
/-- other voices of two states alike -/
theorem vcl_o {s s' : aS} {X : Nat → Nat → Int32} {u : Nat} {st : Bool} (g1 : aW s' u = aW s u) (g2 : aSg s' u = aSg s u) (g3 : aPk s' u = aPk s u) (g4 : (u < aNv s' ↔ u < aNv s)) (g5 : u < aNv s → aUp s' u = aUp s u ∧ aDn s' u = aDn s u) (g6 : ∀ i, i < (aW s u).1 → aPi s' (24 * u + i) = aPi s (24 * u + i) ∧ aUa s' (24 * u + i) = aUa s (24 * u + i) ∧ aDa s' (24 * u + i) = aDa s (24 * u + i)) (h : vcl s X u st) : vcl s' X u st := by
  obtain ⟨h1, h2, h3, h4, h5⟩ := h
  refine ⟨fun z => by rw [g2]; exact h1 (g4.mp z), by rw [g1]; exact h2, ?_, by rw [g1, g2, g3]; exact h4, fun z => h5 (by have := g4; omega)⟩
  rw [g1]
  have e1 : (if u < aNv s' then aUp s' u else 1) = (if u < aNv s then aUp s u else 1) := by
    by_cases c : u < aNv s
    · rw [if_pos c, if_pos (g4.mpr c), (g5 c).1]
    · rw [if_neg c, if_neg (fun z => c (g4.mp z))]
  have e2 : (if u < aNv s' then aDn s' u else 1) = (if u < aNv s then aDn s u else 1) := by
    by_cases c : u < aNv s
    · rw [if_pos c, if_pos (g4.mpr c), (g5 c).2]
    · rw [if_neg c, if_neg (fun z => c (g4.mp z))]
  rw [e1, e2]
  refine ⟨h3.1, fun i hi => ?_⟩
  obtain ⟨q1, q2, q3⟩ := h3.2 i hi
  obtain ⟨k1, k2, k3⟩ := g6 i hi
  exact ⟨by dsimp only; rw [k1]; exact q1, by dsimp only; rw [k2]; exact q2, by dsimp only; rw [k3]; exact q3⟩
end AUP
