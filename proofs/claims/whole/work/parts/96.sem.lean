/-! items' ends, the row's places -/
section ROWS
variable {w : ro_w} {sg g : Nat} {E U P H : Nat → Nat}
theorem en_18 {k p m : Nat} (hk : g ≤ k) : ¬ enE w sg g k 18 p m := fun h => by
  rw [en_no (Or.inl (by omega))] at h
  have := h.1
  unfold hd_ at this
  simp at this
  omega
/-- what the tables know of a row's choices is all there is -/
theorem kf_al {p ch k f : Nat} (h : kf_ w g [] p ch = some (k, f)) (h1 : 1 ≤ ch ∧ ch ≤ 18) : k ≤ g ∧ f ≤ 18 ∧ ((f ∈ un_f g k ∨ f ∈ pa_f g k) ∨ ∀ m, ¬ enE w sg g k f p m) := by
  have h : (ic_ w g ch p).map (fun k => (k, if_ ch)) = some (k, f) := h
  unfold ic_ at h
  by_cases c1 : ch = 1 ∨ ch = 2 ∨ ch = 18
  · rw [if_pos c1] at h
    by_cases c2 : w.2.2.1 p ≤ g
    · rw [if_pos c2] at h
      have h := Option.some.inj h
      have hk : w.2.2.1 p = k := congrArg Prod.fst h
      have hf : if_ ch = f := congrArg Prod.snd h
      unfold if_ at hf
      rw [if_neg (by omega)] at hf
      refine ⟨by omega, by omega, ?_⟩
      by_cases hg : k < g
      · left; left
        unfold un_f
        rw [if_pos hg]
        subst hf
        rcases c1 with rfl | rfl | rfl <;> decide
      · rcases c1 with e | e | e
        · left; left; unfold un_f; rw [if_neg hg]; subst hf; subst e; decide
        · left; left; unfold un_f; rw [if_neg hg]; subst hf; subst e; decide
        · right
          intro m
          rw [← hf, e]
          exact en_18 (by omega)
    · rw [if_neg c2] at h; cases h
  rw [if_neg c1] at h
  have h15 : 15 ∈ pa_f g k := by unfold pa_f; split <;> decide
  by_cases c3 : ch = 15
  · rw [if_pos c3] at h
    by_cases c2 : w.2.2.2 p = true ∧ w.2.2.1 p ≤ g
    · rw [if_pos c2] at h
      have h := Option.some.inj h
      have hk : w.2.2.1 p = k := congrArg Prod.fst h
      have hf : if_ ch = f := congrArg Prod.snd h
      unfold if_ at hf
      rw [if_neg (by omega), c3] at hf
      subst hf
      exact ⟨by omega, by omega, Or.inl (Or.inr h15)⟩
    · rw [if_neg c2] at h; cases h
  rw [if_neg c3] at h
  by_cases c4 : ch = 16
  · rw [if_pos c4] at h
    by_cases c2 : w.2.2.2 p = true ∧ 1 ≤ w.2.2.1 p ∧ w.2.2.1 p - 1 ≤ g
    · rw [if_pos c2] at h
      have h := Option.some.inj h
      have hk : w.2.2.1 p - 1 = k := congrArg Prod.fst h
      have hf : if_ ch = f := congrArg Prod.snd h
      unfold if_ at hf
      rw [if_pos c4] at hf
      subst hf
      exact ⟨by omega, by omega, Or.inl (Or.inr h15)⟩
    · rw [if_neg c2] at h; cases h
  rw [if_neg c4] at h
  by_cases c5 : ch = 12 ∨ ch = 17
  · rw [if_pos c5] at h; cases h
  rw [if_neg c5] at h
  have h := Option.some.inj h
  have hk : g = k := congrArg Prod.fst h
  have hf : if_ ch = f := congrArg Prod.snd h
  unfold if_ at hf
  rw [if_neg c4] at hf
  subst hk
  refine ⟨Nat.le_refl _, by omega, Or.inl ?_⟩
  unfold un_f pa_f
  rw [if_neg (by omega), if_neg (by omega)]
  unfold fs_
  rw [if_pos rfl, if_neg (by decide), if_pos rfl]
  simp only [List.mem_cons, List.not_mem_nil, or_false]
  omega
theorem cr_hd {k f p m : Nat} (h : enE w sg g k f p m) : ∃ q, cr_ w sg g k f p q := by
  by_cases c : (f ≤ 2 ∨ 6 ≤ f ∧ f ≤ 11) ∧ sp_perf sg k = true
  · rw [en_dv c.2 c.1] at h
    rcases h with h | ⟨q, h, -⟩
    · exact ⟨m, h⟩
    · exact ⟨q, h⟩
  · rw [en_no (by
      by_cases c1 : f ≤ 2 ∨ 6 ≤ f ∧ f ≤ 11
      · exact Or.inr (by simpa using fun z => c ⟨c1, z⟩)
      · exact Or.inl c1)] at h
    exact ⟨m, h⟩
theorem it_us {p m : Nat} (hp : p < w.1) : IT w sg g p m ↔ ∃ k, k < g + 1 ∧ (US w sg g k p m ∨ PS w sg g k p m) := by
  rw [it_en]
  constructor
  · rintro ⟨ch, k, f, h1, h2, h3, h4⟩
    obtain ⟨a1, a2, a3⟩ := kf_al (sg := sg) h3 ⟨h1, h2⟩
    rcases a3 with (a3 | a3) | a3
    · exact ⟨k, by omega, Or.inl ⟨f, a3, h4⟩⟩
    · exact ⟨k, by omega, Or.inr ⟨f, a3, h4⟩⟩
    · exact absurd h4 (a3 m)
  · rintro ⟨k, hk, h⟩
    have mk : ∀ ch f, 1 ≤ ch → ch ≤ 18 → ic_ w g ch p = some k → if_ ch = f → enE w sg g k f p m → ∃ ch k f, 1 ≤ ch ∧ ch ≤ 18 ∧ kf_ w g [] p ch = some (k, f) ∧ enE w sg g k f p m := by
      intro ch f a b c d e
      refine ⟨ch, k, f, a, b, ?_, e⟩
      show (ic_ w g ch p).map (fun k => (k, if_ ch)) = some (k, f)
      rw [c]
      show some (k, if_ ch) = some (k, f)
      rw [d]
    -- forms 1, 2, 18 and those of the ground
    have plain1 : ∀ f, (f = 1 ∨ f = 2 ∨ f = 18) → enE w sg g k f p m → ∃ ch k f, 1 ≤ ch ∧ ch ≤ 18 ∧ kf_ w g [] p ch = some (k, f) ∧ enE w sg g k f p m := by
      intro f hf he
      obtain ⟨q, hc⟩ := cr_hd he
      have hkk : w.2.2.1 p = k := by
        rcases hf with rfl | rfl | rfl
        · exact plain_k (cr_1.mp hc).1
        · exact rest_k (cr_2.mp hc).1
        · have := hc.1
          unfold hd_ at this
          simp at this
          exact plain_k this.2.1
      refine mk f f (by omega) (by omega) ?_ (by unfold if_; rw [if_neg (by omega)]) he
      unfold ic_
      rw [if_pos hf, if_pos (by omega), hkk]
    have ground : ∀ f, g = k → (3 ≤ f ∧ f ≤ 11 ∨ f = 13 ∨ f = 14) → enE w sg g k f p m → ∃ ch k f, 1 ≤ ch ∧ ch ≤ 18 ∧ kf_ w g [] p ch = some (k, f) ∧ enE w sg g k f p m := by
      intro f hg hf he
      refine mk f f (by omega) (by omega) ?_ (by unfold if_; rw [if_neg (by omega)]) he
      unfold ic_
      rw [if_neg (by omega), if_neg (by omega), if_neg (by omega), if_neg (by omega), hg]
    have thirds : enE w sg g k 15 p m → ∃ ch k f, 1 ≤ ch ∧ ch ≤ 18 ∧ kf_ w g [] p ch = some (k, f) ∧ enE w sg g k f p m := by
      intro he
      have hc := he
      rw [en_no (Or.inl (by omega)), cr_15] at hc
      obtain ⟨q, h1, -⟩ := hc
      rw [th_en] at h1
      obtain ⟨f, hf, h1⟩ := h1
      have hf : f = 16 ∨ f = 17 := by
        unfold fs_ at hf
        rw [if_neg (by decide), if_neg (by decide)] at hf
        simpa using hf
      rw [en_no (Or.inl (by omega))] at h1
      rcases hf with rfl | rfl
      · have := dyed_k (cr_16.mp h1).1
        refine mk 15 15 (by omega) (by omega) ?_ rfl he
        unfold ic_
        rw [if_neg (by omega), if_pos rfl, if_pos ⟨this.2, by omega⟩, this.1]
      · have := dyed_k (cr_17.mp h1).1.2.1
        refine mk 16 15 (by omega) (by omega) ?_ rfl he
        unfold ic_
        rw [if_neg (by omega), if_neg (by omega), if_pos rfl, if_pos ⟨this.2, by omega, by omega⟩, this.1]
        rfl
    rcases h with ⟨f, hf, he⟩ | ⟨f, hf, he⟩
    · unfold un_f at hf
      by_cases hg : k < g
      · rw [if_pos hg] at hf
        simp only [List.mem_cons, List.not_mem_nil, or_false] at hf
        exact plain1 f hf he
      · rw [if_neg hg] at hf
        unfold fs_ at hf
        rw [if_pos rfl] at hf
        simp only [List.mem_cons, List.not_mem_nil, or_false] at hf
        by_cases c : f = 1 ∨ f = 2
        · exact plain1 f (by omega) he
        · exact ground f (by omega) (by omega) he
    · unfold pa_f at hf
      by_cases hg : k < g
      · rw [if_pos hg] at hf
        simp only [List.mem_cons, List.not_mem_nil, or_false] at hf
        subst hf
        exact thirds he
      · rw [if_neg hg] at hf
        unfold fs_ at hf
        rw [if_neg (by decide), if_pos rfl] at hf
        simp only [List.mem_cons, List.not_mem_nil, or_false] at hf
        by_cases c : f = 15
        · subst c; exact thirds he
        · exact ground f (by omega) (by omega) he
theorem ie_mb {p : Nat} (hi : ivC w sg g E U P H (cdn 0 0)) (hg : g ≤ 4) (h24 : w.1 ≤ 24) (hp : p < w.1) : mb (ie_ U P p (g + 1)) (IT w sg g p) := by
  have key : ∀ n, n ≤ g + 1 → mb (ie_ U P p n) (fun m => ∃ k, k < n ∧ (US w sg g k p m ∨ PS w sg g k p m)) := by
    intro n
    induction n with
    | zero => intro _; exact mb_0 (fun m z => by obtain ⟨k, hk, -⟩ := z; omega)
    | succ n ih =>
      intro hn
      have e := (hi n p (by omega) (by omega)).1 (by unfold cdn; omega)
      refine mb_iff (mb_or (ih (by omega)) (mb_or e.2.1 e.2.2.1)) (fun m => ?_)
      constructor
      · rintro (⟨k, h1, h2⟩ | h)
        · exact ⟨k, by omega, h2⟩
        · exact ⟨n, by omega, h⟩
      · rintro ⟨k, h1, h2⟩
        by_cases c : k = n
        · subst c; exact Or.inr h2
        · exact Or.inl ⟨k, by omega, h2⟩
  exact mb_iff (key (g + 1) (Nat.le_refl _)) (fun m => (it_us hp).symm)
theorem it_lt {p m : Nat} (h : IT w sg g p m) : p < m ∧ m ≤ w.1 := by
  rw [it_en] at h
  obtain ⟨ch, k, f, -, -, -, h⟩ := h
  exact en_lt h
theorem tE_mb {IE : Nat → Nat} (hi : ∀ p, p < w.1 → mb (IE p) (IT w sg g p)) : mb (tE_ IE w.1 w.1) (fun q => q ≤ w.1 ∧ lvE w sg g [] q) := by
  have key : ∀ n, n ≤ w.1 → mb (tE_ IE w.1 n) (fun q => w.1 - n ≤ q ∧ q ≤ w.1 ∧ lvE w sg g [] q) := by
    intro n
    induction n with
    | zero =>
      intro _
      refine mb_iff (mb_one w.1) (fun q => ⟨?_, fun z => by omega⟩)
      rintro rfl
      exact ⟨by omega, Nat.le_refl _, lv_end (Nat.le_refl _)⟩
    | succ n ih =>
      intro hn
      have h1 := ih (by omega)
      have h2 := hi (w.1 - 1 - n) (by omega)
      have hc := mb_ne (mb_and h2 h1)
      refine mb_iff (mb_or h1 (mb_if (b := IE (w.1 - 1 - n) &&& tE_ IE w.1 n ≠ 0) (mb_one (w.1 - 1 - n)))) (fun q => ?_)
      constructor
      · rintro (⟨a1, a2, a3⟩ | ⟨a1, a2⟩)
        · exact ⟨by omega, a2, a3⟩
        · rw [hc] at a1
          obtain ⟨m, b1, b2⟩ := a1
          subst a2
          exact ⟨by omega, by omega, (lv_row (by omega)).mpr ⟨m, b1, b2.2.2⟩⟩
      · rintro ⟨a1, a2, a3⟩
        by_cases c : q = w.1 - 1 - n
        · subst c
          obtain ⟨m, b1, b2⟩ := (lv_row (by omega)).mp a3
          have := it_lt b1
          exact Or.inr ⟨hc.mpr ⟨m, b1, by omega, by omega, b2⟩, rfl⟩
        · exact Or.inl ⟨by omega, a2, a3⟩
  exact mb_iff (key w.1 (Nat.le_refl _)) (fun q => ⟨fun z => z.2, fun z => ⟨by omega, z⟩⟩)
end ROWS
