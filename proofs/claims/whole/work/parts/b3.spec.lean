/-! the reference's arrays change with the state -/
section RUP
variable {s : aS} {F F' : Nat → Int32} {A A' : Nat → Nat → Int32} {B : Nat → Nat → Int64}
/-- what is ready after voice v has changed -/
theorem rdy_ch {s s' : aS} {v : Nat} (h : rdy_ s F A) (hv6 : v < 6) (h42 : F' 42 = (if F 42 = nI v then -1 else F 42)) (hF : ∀ j, j ≠ 42 → j ≠ 0 → F' j = F j) (hA : ∀ j, 16 ≤ j → j ≤ 39 → A' j = A j) (hn : aNv s ≤ aNv s') (hw : ∀ u, u < aNv s → u ≠ v → aW s' u = aW s u ∧ aSg s' u = aSg s u) : rdy_ s' F' A' := by
  obtain ⟨r, d1, d2, d3⟩ := h
  by_cases c : F 42 = nI v
  · rw [if_pos c] at h42
    exact ⟨-1, h42.trans (by decide), ⟨by omega, by omega⟩, fun u hu => by omega⟩
  · rw [if_neg c] at h42
    refine ⟨r, h42.trans d1, d2, fun u hu => ?_⟩
    obtain ⟨k1, N, k2⟩ := d3 u hu
    have hne : u ≠ v := fun e => c (by rw [d1, hu, e]; rfl)
    obtain ⟨q1, q2⟩ := hw u k1 hne
    rw [q1, q2]
    exact ⟨by omega, N, rc_x k2 (fun j hj => hF j (by omega) (by omega)) hA⟩
theorem RI_put {v so ki : Nat} {pi : Int} {co : Bool} (hW : WF s) (h : RI s F A B) (hv : v < aNv s) (hs : aSz s v < 24) (b1 : so < 4) (b2 : ki < 7) (b3 : -40 ≤ pi ∧ pi ≤ 40) (c6 : A' 6 = upd (A 6) (24 * v + aSz s v) (nI so)) (c7 : A' 7 = upd (A 7) (24 * v + aSz s v) (nI ki)) (c8 : A' 8 = upd (A 8) (24 * v + aSz s v) (Int32.ofInt pi)) (c9 : A' 9 = upd (A 9) (24 * v + aSz s v) (nI (Bool.toNat co))) (c10 : A' 10 = upd (A 10) (24 * v + aSz s v) (nI (aUp s v))) (c11 : A' 11 = upd (A 11) (24 * v + aSz s v) (nI (aDn s v))) (c2 : A' 2 = upd (A 2) v (nI (aSz s v + 1))) (c5 : A' 5 = upd (A 5) v (nI 0)) (co_ : ∀ j, j ≠ 2 → (j < 5 ∨ 11 < j) → A' j = A j) (h42 : F' 42 = (if F 42 = nI v then -1 else F 42)) (hF : ∀ j, j ≠ 42 → F' j = F j) : RI (aPut s v so ki pi co) F' A' B := by
  obtain ⟨⟨a1, a2⟩, b, c, d, ⟨e1, e2⟩, f1, f2⟩ := h
  have hv6 : v < 6 := by have := hW.1.1; omega
  refine ⟨⟨⟨(hF 0 (by decide)).trans a1.1, a1.2⟩, fun u hu => ?_⟩, fun j hj => ?_, sk_x c (fun j h1 h2 => hF j (by omega)) (fun j h1 h2 => co_ j (by omega) (by omega)), rdy_ch d hv6 h42 (fun j hj _ => hF j hj) (fun j h1 h2 => co_ j (by omega) (by omega)) (Nat.le_refl _) (fun u hu hne => ⟨aW_put hne hs (hW.2.1 u (by have := hW.1.1; omega)).1.2, rfl⟩), ⟨(hF 48 (by decide)).trans e1, fun f hf => ?_⟩, (hF 52 (by decide)).trans f1, fun i hi => ?_⟩
  · obtain ⟨k1, k2, k3, k4, k5, k6⟩ := a2 u hu
    rw [co_ 1 (by decide) (by decide), co_ 3 (by decide) (by decide), co_ 4 (by decide) (by decide), c2, c5]
    show (A 1 u = nI (aSg s u) ∧ aSg s u < 16) ∧ (upd (A 2) v (nI (aSz s v + 1)) u = nI (rm_up (aSz s) v (aSz s v + 1) u) ∧ rm_up (aSz s) v (aSz s v + 1) u ≤ 24) ∧ (A 3 u = nI (aUp s u) ∧ aUp s u ≤ 1000) ∧ (A 4 u = nI (aDn s u) ∧ aDn s u ≤ 1000) ∧ upd (A 5) v (nI 0) u = nI (rm_up (aPk s) v 0 u) ∧ rm_up (aPk s) v 0 u < 1001
    by_cases e : u = v
    · rw [e, pk_us, pk_us, rm_up_s, rm_up_s]
      rw [e] at k1 k3 k4
      exact ⟨k1, ⟨rfl, by omega⟩, k3, k4, rfl, by decide⟩
    · rw [pk_un e, pk_un e, rm_up_n e, rm_up_n e]
      exact ⟨k1, k2, k3, k4, k5, k6⟩
  · obtain ⟨k1, k2, k3, k4, k5, k6⟩ := b j hj
    have hud := (a2 v hv6).2.2
    rw [c6, c7, c8, c9, c10, c11]
    show (upd (A 6) (24 * v + aSz s v) (nI so) j = nI (rm_up (aSo s) (24 * v + aSz s v) so j) ∧ rm_up (aSo s) (24 * v + aSz s v) so j < 4) ∧ (upd (A 7) (24 * v + aSz s v) (nI ki) j = nI (rm_up (aKi s) (24 * v + aSz s v) ki j) ∧ rm_up (aKi s) (24 * v + aSz s v) ki j < 7) ∧ (upd (A 8) (24 * v + aSz s v) (Int32.ofInt pi) j = Int32.ofInt (rm_up (aPi s) (24 * v + aSz s v) pi j) ∧ -40 ≤ rm_up (aPi s) (24 * v + aSz s v) pi j ∧ rm_up (aPi s) (24 * v + aSz s v) pi j ≤ 40) ∧ upd (A 9) (24 * v + aSz s v) (nI (Bool.toNat co)) j = nI (Bool.toNat (rm_up (aCo s) (24 * v + aSz s v) co j)) ∧ (upd (A 10) (24 * v + aSz s v) (nI (aUp s v)) j = nI (rm_up (aUa s) (24 * v + aSz s v) (aUp s v) j) ∧ rm_up (aUa s) (24 * v + aSz s v) (aUp s v) j ≤ 1000) ∧ (upd (A 11) (24 * v + aSz s v) (nI (aDn s v)) j = nI (rm_up (aDa s) (24 * v + aSz s v) (aDn s v) j) ∧ rm_up (aDa s) (24 * v + aSz s v) (aDn s v) j ≤ 1000)
    by_cases e : j = 24 * v + aSz s v
    · rw [e, pk_us, pk_us, pk_us, pk_us, pk_us, pk_us, rm_up_s, rm_up_s, rm_up_s, rm_up_s, rm_up_s, rm_up_s]
      exact ⟨⟨rfl, b1⟩, ⟨rfl, b2⟩, ⟨rfl, b3⟩, rfl, ⟨rfl, hud.1.2⟩, rfl, hud.2.1.2⟩
    · rw [pk_un e, pk_un e, pk_un e, pk_un e, pk_un e, pk_un e, rm_up_n e, rm_up_n e, rm_up_n e, rm_up_n e, rm_up_n e, rm_up_n e]
      exact ⟨k1, k2, k3, k4, k5, k6⟩
  · rw [co_ 49 (by decide) (by decide)]; exact e2 f hf
  · rw [co_ 51 (by decide) (by decide)]; exact ⟨(f2 i hi).1, st1_eq (co_ 17 (by decide) (by decide)) (co_ 18 (by decide) (by decide)) (f2 i hi).2⟩
theorem RI_back {v : Nat} (hW : WF s) (h : RI s F A B) (hv : v < aNv s) (c2 : A' 2 = upd (A 2) v (nI (aSz s v - 1))) (c5 : A' 5 = upd (A 5) v (nI 0)) (co_ : ∀ j, j ≠ 2 → j ≠ 5 → A' j = A j) (h42 : F' 42 = (if F 42 = nI v then -1 else F 42)) (hF : ∀ j, j ≠ 42 → F' j = F j) : RI (aBack s v) F' A' B := by
  obtain ⟨⟨a1, a2⟩, b, c, d, ⟨e1, e2⟩, f1, f2⟩ := h
  have hv6 : v < 6 := by have := hW.1.1; omega
  refine ⟨⟨⟨(hF 0 (by decide)).trans a1.1, a1.2⟩, fun u hu => ?_⟩, fun j hj => ?_, sk_x c (fun j h1 h2 => hF j (by omega)) (fun j h1 h2 => co_ j (by omega) (by omega)), rdy_ch d hv6 h42 (fun j hj _ => hF j hj) (fun j h1 h2 => co_ j (by omega) (by omega)) (Nat.le_refl _) (fun u hu hne => ⟨aW_back_o hne, rfl⟩), ⟨(hF 48 (by decide)).trans e1, fun f hf => ?_⟩, (hF 52 (by decide)).trans f1, fun i hi => ?_⟩
  · obtain ⟨k1, k2, k3, k4, k5, k6⟩ := a2 u hu
    rw [co_ 1 (by decide) (by decide), co_ 3 (by decide) (by decide), co_ 4 (by decide) (by decide), c2, c5]
    show (A 1 u = nI (aSg s u) ∧ aSg s u < 16) ∧ (upd (A 2) v (nI (aSz s v - 1)) u = nI (rm_up (aSz s) v (aSz s v - 1) u) ∧ rm_up (aSz s) v (aSz s v - 1) u ≤ 24) ∧ (A 3 u = nI (aUp s u) ∧ aUp s u ≤ 1000) ∧ (A 4 u = nI (aDn s u) ∧ aDn s u ≤ 1000) ∧ upd (A 5) v (nI 0) u = nI (rm_up (aPk s) v 0 u) ∧ rm_up (aPk s) v 0 u < 1001
    by_cases e : u = v
    · rw [e, pk_us, pk_us, rm_up_s, rm_up_s]
      rw [e] at k1 k2 k3 k4
      exact ⟨k1, ⟨rfl, by omega⟩, k3, k4, rfl, by decide⟩
    · rw [pk_un e, pk_un e, rm_up_n e, rm_up_n e]
      exact ⟨k1, k2, k3, k4, k5, k6⟩
  · rw [co_ 6 (by decide) (by decide), co_ 7 (by decide) (by decide), co_ 8 (by decide) (by decide), co_ 9 (by decide) (by decide), co_ 10 (by decide) (by decide), co_ 11 (by decide) (by decide)]; exact b j hj
  · rw [co_ 49 (by decide) (by decide)]; exact e2 f hf
  · rw [co_ 51 (by decide) (by decide)]; exact ⟨(f2 i hi).1, st1_eq (co_ 17 (by decide) (by decide)) (co_ 18 (by decide) (by decide)) (f2 i hi).2⟩
/-- voices' own fields -/
theorem RI_vo {s' : aS} (h : RI s F A B) (hvo : vo_ F' A' (aNv s') (aSg s') (aSz s') (aUp s') (aDn s') (aPk s')) (e2 : s'.2 = s.2) (hF : ∀ j, j ≠ 0 → F' j = F j) (hA : ∀ j, 5 < j → A' j = A j) (hn : aNv s ≤ aNv s') (hw : ∀ u, u < aNv s → aW s' u = aW s u ∧ aSg s' u = aSg s u) : RI s' F' A' B := by
  obtain ⟨a, b, c, ⟨r, d1, d2, d3⟩, ⟨e1, e3⟩, f1, f2⟩ := h
  have g1 : aSo s' = aSo s := congrArg (fun z => z.1.1) e2
  have g2 : aKi s' = aKi s := congrArg (fun z => z.1.2.1) e2
  have g3 : aPi s' = aPi s := congrArg (fun z => z.1.2.2.1) e2
  have g4 : aCo s' = aCo s := congrArg (fun z => z.1.2.2.2.1) e2
  have g5 : aUa s' = aUa s := congrArg (fun z => z.1.2.2.2.2.1) e2
  have g6 : aDa s' = aDa s := congrArg (fun z => z.1.2.2.2.2.2) e2
  have g7 : aNf s' = aNf s := congrArg (fun z => z.2.1.1) e2
  have g8 : aFl s' = aFl s := congrArg (fun z => z.2.1.2) e2
  have g9 : aNw s' = aNw s := congrArg (fun z => z.2.2.1) e2
  have g0 : aWk s' = aWk s := congrArg (fun z => z.2.2.2) e2
  refine ⟨hvo, ?_, sk_x c (fun j h1 h2 => hF j (by omega)) (fun j h1 h2 => hA j (by omega)), ⟨r, (hF 42 (by decide)).trans d1, d2, fun u hu => ?_⟩, ⟨by rw [g7]; exact (hF 48 (by decide)).trans e1, fun f hf => ?_⟩, by rw [g9]; exact (hF 52 (by decide)).trans f1, fun i hi => ?_⟩
  · rw [g1, g2, g3, g4, g5, g6]
    intro j hj
    rw [hA 6 (by decide), hA 7 (by decide), hA 8 (by decide), hA 9 (by decide), hA 10 (by decide), hA 11 (by decide)]
    exact b j hj
  · obtain ⟨k1, N, k2⟩ := d3 u hu
    obtain ⟨q1, q2⟩ := hw u k1
    rw [q1, q2]
    exact ⟨by omega, N, rc_x k2 (fun j hj => hF j (by omega)) (fun j h1 h2 => hA j (by omega))⟩
  · rw [g8, hA 49 (by decide)]; exact e3 f hf
  · rw [g0, hA 51 (by decide)]; exact ⟨(f2 i hi).1, st1_eq (hA 17 (by decide)) (hA 18 (by decide)) (f2 i hi).2⟩
end RUP
