/-! the reading first picked is the first in order -/
section BOS
theorem bo_sp : ∀ (F : List gL) (y : gL), bo_ F = some y → ∃ A B, F = A ++ y :: B ∧ (∀ a ∈ A, sn_ y.2.1.1 < sn_ a.2.1.1) ∧ ∀ b ∈ B, sn_ y.2.1.1 ≤ sn_ b.2.1.1 := by
  have key : ∀ (n : Nat) (F : List gL), F.length = n → ∀ y : gL, bo_ F = some y → ∃ A B, F = A ++ y :: B ∧ (∀ a ∈ A, sn_ y.2.1.1 < sn_ a.2.1.1) ∧ ∀ b ∈ B, sn_ y.2.1.1 ≤ sn_ b.2.1.1 := by
   intro n
   induction n with
   | zero => intro F hF y h; rw [List.eq_nil_of_length_eq_zero hF] at h; cases h
   | succ n ih =>
    intro G hG y h
    obtain ⟨F, x, e⟩ := (List.eq_nil_or_concat G).resolve_left (fun z => by rw [z] at hG; cases hG)
    rw [List.concat_eq_append] at e
    subst e
    have hF : F.length = n := by rw [List.length_append] at hG; exact Nat.succ.inj hG
    have ih := ih F hF
    rw [bo_app] at h
    replace h := Option.some.inj h
    cases hz : bo_ F with
    | none =>
      rw [hz] at h
      have hF := bo_none.mp hz
      subst hF
      have h : x = y := h
      subst h
      exact ⟨[], [], rfl, (fun a ha => by cases ha), (fun a ha => by cases ha)⟩
    | some z =>
      rw [hz] at h
      have h : (if sn_ x.2.1.1 < sn_ z.2.1.1 then x else z) = y := h
      obtain ⟨A, B, h1, h2, h3⟩ := ih z hz
      by_cases c : sn_ x.2.1.1 < sn_ z.2.1.1
      · rw [if_pos c] at h
        subst h
        refine ⟨F, [], rfl, fun a ha => ?_, (fun a ha => by cases ha)⟩
        rw [h1, List.mem_append, List.mem_cons] at ha
        rcases ha with ha | ha | ha
        · have := h2 a ha; omega
        · rw [ha]; exact c
        · have := h3 a ha; omega
      · rw [if_neg c] at h
        subst h
        refine ⟨A, B ++ [x], by rw [h1, List.append_assoc]; rfl, h2, fun a ha => ?_⟩
        rw [List.mem_append, List.mem_singleton] at ha
        rcases ha with ha | ha
        · exact h3 a ha
        · rw [ha]; omega
  intro F
  exact key F.length F rfl
theorem srt_hd {α : Type} {key : α → Nat} {n : Nat} {A B : List α} {y : α} (hn : key y < n) (hA : ∀ a ∈ A, key y < key a) (hB : ∀ b ∈ B, key y ≤ key b) : (srt key n (A ++ y :: B))[0]? = some y := by
  have hc : ∀ s, s ≤ key y → cum ((A ++ y :: B).map key) s = 0 := by
    intro s
    induction s with
    | zero => intro _; rfl
    | succ s ih =>
      intro hs
      show cum _ s + _ = 0
      rw [ih (by omega), cnt_map, List.countP_eq_zero.mpr]
      intro x hx
      rw [List.mem_append, List.mem_cons] at hx
      rcases hx with hx | hx | hx
      · have := hA x hx; simp; omega
      · subst hx; simp; omega
      · have := hB x hx; simp; omega
  have hG : ((A ++ y :: B).filter (fun x => key x == key y))[0]? = some y := by
    rw [List.filter_append, List.filter_eq_nil_iff.mpr (fun x hx => by have := hA x hx; simp; omega), List.nil_append, List.filter_cons_of_pos (by simp)]
    rfl
  have h2 := (fm_at (G := fun s => (A ++ y :: B).filter (fun x => key x == s)) (c := cum ((A ++ y :: B).map key)) rfl (fun s => by show cum _ s + List.count s _ = _; rw [cnt_map, List.countP_eq_length_filter]) n (key y) 0 hn (get_lt hG)).1
  rw [hc _ (Nat.le_refl _)] at h2
  unfold srt
  exact h2.trans hG
/-- what a stale voice is left with: reading 0 -/
theorem bo_rD {w : ro_w} {sg : Nat} (hk : rk_ w sg (gd_ sg)) {y : gL} (h : bo_ (Br w sg (gd_ sg) 0) = some y) : (rD w sg)[0]? = some y.2.1 := by
  obtain ⟨A, B, h1, h2, h3⟩ := bo_sp _ _ h
  have hy : y ∈ Br w sg (gd_ sg) 0 := by rw [h1]; exact List.mem_append_right _ List.mem_cons_self
  obtain ⟨-, -, hy1, hy2⟩ := Br_lk hk hy
  have e : RR (Br w sg (gd_ sg) 0) = RR A ++ y :: (List.replicate (y.2.2 - 1) y ++ RR B) := by
    rw [h1]
    unfold RR
    rw [List.flatMap_append, List.flatMap_cons]
    congr 1
    obtain ⟨c, hc⟩ : ∃ c, y.2.2 = c + 1 := ⟨y.2.2 - 1, by omega⟩
    rw [hc, List.replicate_succ]
    rfl
  have hs : (sS w sg)[0]? = some y := by
    unfold sS
    rw [e]
    refine srt_hd (key := fun x : gL => sn_ x.2.1.1) hy1 (fun a ha => h2 a (RR_mem ha)) (fun b hb => ?_)
    rw [List.mem_append] at hb
    rcases hb with hb | hb
    · rw [(List.mem_replicate.mp hb).2]; exact Nat.le_refl _
    · exact h3 b (RR_mem hb)
  rw [rD_map, List.getElem?_map, hs]
  rfl
theorem rD_nil {w : ro_w} {sg : Nat} (hk : rk_ w sg (gd_ sg)) (h : Br w sg (gd_ sg) 0 = []) : rD w sg = [] := by
  have h1 := rD_len hk
  rw [h] at h1
  exact List.eq_nil_of_length_eq_zero h1
end BOS
