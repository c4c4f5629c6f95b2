/-! what the reference has found -/
section RGT
variable {F : Nat → Int32} {A : Nat → Nat → Int32} {w : ro_w} {sg N : Nat}
theorem rc_N (h : rc_ F A w sg (gd_ sg) N) (hk : rk_ w sg (gd_ sg)) : (1000 < N ↔ 1000 < (rD w sg).length) ∧ (N ≤ 1000 → N = (rD w sg).length) := by
  obtain ⟨T, I, h1, -, -, h4, -⟩ := h
  have := rS_len h1 hk
  unfold cq at this
  rw [h4]
  show (1000 < I 0 ↔ 1000 < (rS w sg (gd_ sg)).length) ∧ (I 0 ≤ 1000 → I 0 = (rS w sg (gd_ sg)).length)
  omega
/-- reading k, in order: where it stands, what it says -/
theorem rc_get (h : rc_ F A w sg (gd_ sg) N) (hk : rk_ w sg (gd_ sg)) {k : Nat} (hL : (rD w sg).length ≤ 1000) (hkl : k < (rD w sg).length) : ∃ q y, A 39 k = nI q ∧ q < 1000 ∧ (rD w sg)[k]? = some y ∧ fr_at A q y.1 ∧ ∀ i, i < w.1 → A 38 (24 * q + i) = nI (y.2.getD i 0) := by
  have hN := rc_N h hk
  obtain ⟨T, I, h1, -, -, h4, -, h6⟩ := h
  have hN1 : N = (rD w sg).length := hN.2 (by omega)
  obtain ⟨g1, g2⟩ := h6 (by omega)
  have hlen : (so_ (fun q => (rf_ w sg (gd_ sg) T I q).1) N).length = N := so_len _ _
  have hi : N - 1 - k < (so_ (fun q => (rf_ w sg (gd_ sg) T I q).1) N).length := by rw [hlen]; omega
  have hq : (so_ (fun q => (rf_ w sg (gd_ sg) T I q).1) N)[N - 1 - k]? = some (so_ (fun q => (rf_ w sg (gd_ sg) T I q).1) N)[N - 1 - k] := List.getElem?_eq_getElem hi
  generalize (so_ (fun q => (rf_ w sg (gd_ sg) T I q).1) N)[N - 1 - k] = q at hq
  have hqN : q < N := so_lt _ _ _ (List.mem_of_getElem? hq)
  have hA := g2 _ _ hq
  rw [show N - 1 - (N - 1 - k) = k from by omega] at hA
  obtain ⟨y, y1, y2, y3, y4⟩ := rS_get h1 hk (by omega) (r := k) (q := q) (by omega) (by rw [← h4]; exact hq)
  obtain ⟨k1, k2⟩ := g1 q hqN
  rw [y2] at k1
  refine ⟨q, y, hA, by omega, y1, k1, fun i hi => ?_⟩
  have h24 := hk.1
  have := k2 i (by omega)
  rw [y3] at this
  rw [this]
  unfold sv
  rw [if_pos ⟨Nat.zero_le _, by omega⟩, Nat.sub_zero]
end RGT
