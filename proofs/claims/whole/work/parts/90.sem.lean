section ASO
variable {w : ro_w} {sg g : Nat} {E U P H : Nat → Nat} {k p D sz : Nat} {PL RS CO AL LI : Nat → Nat}
def M16 (CO : Nat → Nat) (k p : Nat) : Nat := (CO k &&& 1 <<< p) <<< 1
def M17 (CO : Nat → Nat) (k p : Nat) : Nat := (((if k < 6 then CO (k + 1) else 0) &&& ((if k < 6 then CO (k + 1) else 0) >>> 1)) &&& (1 <<< p)) <<< 2
def M15 (H1 : Nat → Nat) (k p sz : Nat) : Nat := aft_ H1 (k * 27) (aft_ H1 (k * 27) (H1 (k * 27 + p)) sz) sz
/-- the lists of a perfect kind, of one that is not, of a greater one -/
def LU_p (D : Nat) (U P PL RS AL LI : Nat → Nat) (k p sz : Nat) : List (Nat × Nat) := [(1, dvm D ((PL k &&& 1 <<< p) <<< 1)), (2, dvm D ((RS k &&& 1 <<< p) <<< 1)), (3, ((PL k &&& D >>> 1) &&& 1 <<< p) <<< 2), (6, dvm D (aft_ U ((k + 1) * 27) (aft_ U ((k + 1) * 27) (U ((k + 1) * 27 + p)) sz) sz)), (7, dvm D (if PL k &&& 1 <<< p ≠ 0 then U ((k + 1) * 27 + (p + 1)) else 0)), (8, dvm D ((U ((k + 1) * 27 + p) &&& AL (k + 1)) <<< 1)), (9, dvm D ((U ((k + 1) * 27 + p) &&& LI k) <<< 1)), (10, dvm D (aft_ P ((k + 1) * 27) (U ((k + 1) * 27 + p)) sz)), (11, dvm D (aft_ U ((k + 1) * 27) (P ((k + 1) * 27 + p)) sz))]
def LU_i (U P PL RS : Nat → Nat) (k p sz : Nat) : List (Nat × Nat) := [(1, (PL k &&& 1 <<< p) <<< 1), (2, (RS k &&& 1 <<< p) <<< 1), (4, aft_ U ((k + 1) * 27) (U ((k + 1) * 27 + p)) sz), (5, P ((k + 1) * 27 + p))]
def LP_i (D : Nat) (U PL : Nat → Nat) (k p : Nat) : List (Nat × Nat) := [(13, if (PL k &&& D >>> 1) &&& 1 <<< p ≠ 0 then U ((k + 1) * 27 + (p + 2)) else 0), (14, (U ((k + 1) * 27 + p) &&& (PL k &&& D >>> 1)) <<< 2)]
def LU_g (D : Nat) (PL RS : Nat → Nat) (k p : Nat) : List (Nat × Nat) := [(1, (PL k &&& 1 <<< p) <<< 1), (2, (RS k &&& 1 <<< p) <<< 1), (18, ((PL k &&& D >>> 1) &&& 1 <<< p) <<< 2)]
/-- what is known before the entry is filled -/
def pre_ (w : ro_w) (sg g : Nat) (E U P H : Nat → Nat) (k p D sz : Nat) (PL RS CO AL LI : Nat → Nat) : Prop := ez E U P H k p ∧ sm_ok w D PL RS CO AL LI ∧ sz = w.1 ∧ sz ≤ 24 ∧ p < sz ∧ k ≤ 6 ∧ (∀ q, q < 27 → q ≠ p → mb (H (k * 27 + q)) (fun m => p ≤ q ∧ TH w sg g k q m))
theorem pre_.z (h : pre_ w sg g E U P H k p D sz PL RS CO AL LI) : ez E U P H k p := h.1
theorem pre_.s (h : pre_ w sg g E U P H k p D sz PL RS CO AL LI) : sm_ok w D PL RS CO AL LI := h.2.1
theorem pre_.hsz (h : pre_ w sg g E U P H k p D sz PL RS CO AL LI) : sz = w.1 := h.2.2.1
theorem pre_.h24 (h : pre_ w sg g E U P H k p D sz PL RS CO AL LI) : sz ≤ 24 := h.2.2.2.1
theorem pre_.hp (h : pre_ w sg g E U P H k p D sz PL RS CO AL LI) : p < sz := h.2.2.2.2.1
theorem pre_.hk (h : pre_ w sg g E U P H k p D sz PL RS CO AL LI) : k ≤ 6 := h.2.2.2.2.2.1
theorem pre_.hH (h : pre_ w sg g E U P H k p D sz PL RS CO AL LI) : ∀ q, q < 27 → q ≠ p → mb (H (k * 27 + q)) (fun m => p ≤ q ∧ TH w sg g k q m) := h.2.2.2.2.2.2
theorem H1_m (h : pre_ w sg g E U P H k p D sz PL RS CO AL LI) : ∀ q, q < 27 → mb (kps H (k * 27 + p) [M16 CO k p, M17 CO k p] (k * 27 + q)) (fun m => p ≤ q ∧ TH w sg g k q m) := by
  intro q hq
  by_cases e : q = p
  · subst e
    intro m
    have t := th_m (sg := sg) (g := g) (k := k) (p := q) h.s (by have := h.hk; omega)
    have e := th_s (M16 := M16 CO k q) (M17 := M17 CO k q) t.1 t.2 m
    rw [kps_bit, h.z.2.2.2, Nat.zero_testBit, e]
    exact ⟨fun z => ⟨Nat.le_refl _, z.resolve_left (fun y => Bool.noConfusion y)⟩, fun z => Or.inr z.2⟩
  · rw [kps_n (by omega)]
    exact h.hH q hq e
theorem m15 (h : pre_ w sg g E U P H k p D sz PL RS CO AL LI) : mb (M15 (kps H (k * 27 + p) [M16 CO k p, M17 CO k p]) k p sz) (enE w sg g k 15 p) := p15_m h.hsz h.h24 h.hp (H1_m h)
theorem al3 {f : Nat} (hf : f = 16 ∨ f = 17) : al_f g k f := Or.inr (Or.inr (by rcases hf with rfl | rfl <;> decide))
theorem al15 : al_f g k 15 := Or.inr (Or.inl (by unfold pa_f; split <;> decide))
theorem eok_p (h : pre_ w sg g E U P H k p D sz PL RS CO AL LI) (hi : sp_perf sg k = true) (hg : g ≤ k) (hU : nxU w sg g U P k p) :
    eok w sg g (ups E (((16, M16 CO k p) :: (17, M17 CO k p) :: (15, M15 (kps H (k * 27 + p) [M16 CO k p, M17 CO k p]) k p sz) :: LU_p D U P PL RS AL LI k p sz).map (fun x => (eix k x.1 p, x.2)))) (kps U (k * 27 + p) ((LU_p D U P PL RS AL LI k p sz).map (fun x => x.2))) (kps P (k * 27 + p) [M15 (kps H (k * 27 + p) [M16 CO k p, M17 CO k p]) k p sz]) (kps H (k * 27 + p) [M16 CO k p, M17 CO k p]) k p := by
  have hk4 := perf_lt hi
  have hk7 : k < 7 := by omega
  have t := th_m (sg := sg) (g := g) (p := p) h.s hk7
  have hL : ∀ x ∈ LU_p D U P PL RS AL LI k p sz, mb x.2 (enE w sg g k x.1 p) := by
    intro x hx
    simp only [LU_p, List.mem_cons, List.not_mem_nil, or_false] at hx
    rcases hx with rfl | rfl | rfl | rfl | rfl | rfl | rfl | rfl | rfl
    · exact dv_m h.s hi (by omega) (m_1 h.s hk7)
    · exact dv_m h.s hi (by omega) (m_2 h.s hk7)
    · exact no_m (Or.inl (by omega)) (mb_iff (m_do h.s hk7) (fun m => (cr_3 hi).symm))
    · exact dv_m h.s hi (by omega) (m_6 hU h.hsz h.h24 h.hp hi)
    · exact dv_m h.s hi (by omega) (m_7 h.s hU h.h24 h.hp hi hk7)
    · exact dv_m h.s hi (by omega) (m_8 h.s hU h.h24 h.hp hi)
    · exact dv_m h.s hi (by omega) (m_9 h.s hU h.h24 h.hp hi)
    · exact dv_m h.s hi (by omega) (m_10 hU h.hsz h.h24 h.hp hi)
    · exact dv_m h.s hi (by omega) (m_11 hU h.hsz h.h24 h.hp hi)
  have hfs : ∀ x ∈ LU_p D U P PL RS AL LI k p sz, x.1 ∈ fs_ 1 := by
    intro x hx
    have hm : x.1 ∈ (LU_p D U P PL RS AL LI k p sz).map (fun x => x.1) := List.mem_map.mpr ⟨x, hx, rfl⟩
    exact (show ∀ f ∈ ([1, 2, 3, 6, 7, 8, 9, 10, 11] : List Nat), f ∈ fs_ 1 by decide) x.1 hm
  have huf : un_f g k = fs_ 1 := by unfold un_f; rw [if_neg (by omega)]
  have hpf : pa_f g k = fs_ 2 := by unfold pa_f; rw [if_neg (by omega)]
  have hmap : (LU_p D U P PL RS AL LI k p sz).map (fun x => x.1) = [1, 2, 3, 6, 7, 8, 9, 10, 11] := rfl
  refine asm_ok h.z (by have := h.hp; have := h.h24; omega) ?_ ?_ ?_ ?_ ?_ ?_
  · show ([16, 17, 15, 1, 2, 3, 6, 7, 8, 9, 10, 11] : List Nat).Nodup
    decide
  · intro x hx
    rcases List.mem_cons.mp hx with rfl | hx
    · exact ⟨by show 16 < 19; decide, al3 (Or.inl rfl), t.1⟩
    rcases List.mem_cons.mp hx with rfl | hx
    · exact ⟨by show 17 < 19; decide, al3 (Or.inr rfl), t.2⟩
    rcases List.mem_cons.mp hx with rfl | hx
    · exact ⟨by show 15 < 19; decide, al15, m15 h⟩
    · refine ⟨?_, Or.inl (by rw [huf]; exact hfs x hx), hL x hx⟩
      have := hfs x hx
      simp only [fs_, if_true, List.mem_cons, List.not_mem_nil, or_false] at this
      omega
  · intro f hf hn m
    have hn : f ∉ ([16, 17, 15, 1, 2, 3, 6, 7, 8, 9, 10, 11] : List Nat) := hn
    simp only [List.mem_cons, List.not_mem_nil, or_false, not_or] at hn
    unfold al_f at hf
    rw [huf, hpf] at hf
    simp only [fs_, Nat.reduceEqDiff, if_true, if_false, List.mem_cons, List.not_mem_nil, or_false] at hf
    exact en_perf hi (by omega)
  · intro m
    unfold US
    rw [huf]
    refine ls_s hL ?_ hfs m
    intro f hf hn m
    rw [hmap] at hn
    simp only [fs_, if_true, List.mem_cons, List.not_mem_nil, or_false, not_or] at hf hn
    exact en_perf hi (by omega)
  · intro m
    unfold PS
    rw [hpf]
    refine ls_s (L := [(15, M15 (kps H (k * 27 + p) [M16 CO k p, M17 CO k p]) k p sz)]) ?_ ?_ ?_ m
    · intro x hx
      rw [List.mem_singleton] at hx
      subst hx
      exact m15 h
    · intro f hf hn m
      have hn : f ∉ ([15] : List Nat) := hn
      simp only [fs_, Nat.reduceEqDiff, if_true, if_false, List.mem_cons, List.not_mem_nil, or_false] at hf hn
      exact en_perf hi (by omega)
    · intro x hx
      rw [List.mem_singleton] at hx
      subst hx
      show 15 ∈ fs_ 2
      decide
  · exact th_s t.1 t.2
theorem eok_i (h : pre_ w sg g E U P H k p D sz PL RS CO AL LI) (hi : sp_perf sg k = false) (hg : g ≤ k) (hU : nxU w sg g U P k p) (hz6 : k = 6 → ∀ q, U ((k + 1) * 27 + q) = 0 ∧ P ((k + 1) * 27 + q) = 0) :
    eok w sg g (ups E (((16, M16 CO k p) :: (17, M17 CO k p) :: (15, M15 (kps H (k * 27 + p) [M16 CO k p, M17 CO k p]) k p sz) :: (LU_i U P PL RS k p sz ++ LP_i D U PL k p)).map (fun x => (eix k x.1 p, x.2)))) (kps U (k * 27 + p) ((LU_i U P PL RS k p sz).map (fun x => x.2))) (kps P (k * 27 + p) (M15 (kps H (k * 27 + p) [M16 CO k p, M17 CO k p]) k p sz :: (LP_i D U PL k p).map (fun x => x.2))) (kps H (k * 27 + p) [M16 CO k p, M17 CO k p]) k p := by
  have hk7 : k < 7 := by have := h.hk; omega
  have t := th_m (sg := sg) (g := g) (p := p) h.s hk7
  have a0 : k = 6 → ∀ pl n, aft_ U ((k + 1) * 27) pl n = 0 := by
    intro e pl n
    induction n with
    | zero => rfl
    | succ n ih =>
      show aft_ U ((k + 1) * 27) pl n ||| (if pl.testBit n = true then U ((k + 1) * 27 + n) else 0) = 0
      rw [ih, (hz6 e n).1]
      split <;> rfl
  have hL : ∀ x ∈ LU_i U P PL RS k p sz, mb x.2 (enE w sg g k x.1 p) := by
    intro x hx
    simp only [LU_i, List.mem_cons, List.not_mem_nil, or_false] at hx
    rcases hx with rfl | rfl | rfl | rfl
    · exact no_m (Or.inr hi) (m_1 h.s hk7)
    · exact no_m (Or.inr hi) (m_2 h.s hk7)
    · by_cases h6 : k < 6
      · exact no_m (Or.inr hi) (m_4 hU h.hsz h.h24 h.hp hi h6)
      · exact m_z (by omega) (by omega) (a0 (by have := h.hk; omega) _ _)
    · by_cases h6 : k < 6
      · exact no_m (Or.inr hi) (m_5 hU h.h24 h.hp hi h6)
      · exact m_z (by omega) (by omega) (hz6 (by have := h.hk; omega) _).2
  have hLp : ∀ x ∈ LP_i D U PL k p, mb x.2 (enE w sg g k x.1 p) := by
    intro x hx
    simp only [LP_i, List.mem_cons, List.not_mem_nil, or_false] at hx
    rcases hx with rfl | rfl
    · by_cases h6 : k < 6
      · exact no_m (Or.inr hi) (m_13 h.s hU h.h24 h.hp hi h6)
      · refine m_z (by omega) (by omega) ?_
        show (if (PL k &&& D >>> 1) &&& 1 <<< p ≠ 0 then U ((k + 1) * 27 + (p + 2)) else 0) = 0
        rw [(hz6 (by have := h.hk; omega) _).1]
        split <;> rfl
    · by_cases h6 : k < 6
      · exact no_m (Or.inr hi) (m_14 h.s hU h.h24 h.hp hi h6)
      · refine m_z (by omega) (by omega) ?_
        show (U ((k + 1) * 27 + p) &&& (PL k &&& D >>> 1)) <<< 2 = 0
        rw [(hz6 (by have := h.hk; omega) _).1, Nat.zero_and, Nat.zero_shiftLeft]
  have hfs : ∀ x ∈ LU_i U P PL RS k p sz, x.1 ∈ fs_ 1 := by
    intro x hx
    have hm : x.1 ∈ (LU_i U P PL RS k p sz).map (fun x => x.1) := List.mem_map.mpr ⟨x, hx, rfl⟩
    exact (show ∀ f ∈ ([1, 2, 4, 5] : List Nat), f ∈ fs_ 1 by decide) x.1 hm
  have hfp : ∀ x ∈ LP_i D U PL k p, x.1 ∈ fs_ 2 := by
    intro x hx
    have hm : x.1 ∈ (LP_i D U PL k p).map (fun x => x.1) := List.mem_map.mpr ⟨x, hx, rfl⟩
    exact (show ∀ f ∈ ([13, 14] : List Nat), f ∈ fs_ 2 by decide) x.1 hm
  have huf : un_f g k = fs_ 1 := by unfold un_f; rw [if_neg (by omega)]
  have hpf : pa_f g k = fs_ 2 := by unfold pa_f; rw [if_neg (by omega)]
  refine asm_ok h.z (by have := h.hp; have := h.h24; omega) ?_ ?_ ?_ ?_ ?_ ?_
  · show ([16, 17, 15, 1, 2, 4, 5, 13, 14] : List Nat).Nodup
    decide
  · intro x hx
    rcases List.mem_cons.mp hx with rfl | hx
    · exact ⟨by show 16 < 19; decide, al3 (Or.inl rfl), t.1⟩
    rcases List.mem_cons.mp hx with rfl | hx
    · exact ⟨by show 17 < 19; decide, al3 (Or.inr rfl), t.2⟩
    rcases List.mem_cons.mp hx with rfl | hx
    · exact ⟨by show 15 < 19; decide, al15, m15 h⟩
    rcases List.mem_append.mp hx with hx | hx
    · refine ⟨?_, Or.inl (by rw [huf]; exact hfs x hx), hL x hx⟩
      have := hfs x hx
      simp only [fs_, if_true, List.mem_cons, List.not_mem_nil, or_false] at this
      omega
    · refine ⟨?_, Or.inr (Or.inl (by rw [hpf]; exact hfp x hx)), hLp x hx⟩
      have := hfp x hx
      simp only [fs_, Nat.reduceEqDiff, if_true, if_false, List.mem_cons, List.not_mem_nil, or_false] at this
      omega
  · intro f hf hn m
    have hn : f ∉ ([16, 17, 15, 1, 2, 4, 5, 13, 14] : List Nat) := hn
    simp only [List.mem_cons, List.not_mem_nil, or_false, not_or] at hn
    unfold al_f at hf
    rw [huf, hpf] at hf
    simp only [fs_, Nat.reduceEqDiff, if_true, if_false, List.mem_cons, List.not_mem_nil, or_false] at hf
    exact en_imp hi (by omega)
  · intro m
    unfold US
    rw [huf]
    refine ls_s hL ?_ hfs m
    intro f hf hn m
    have hn : f ∉ ([1, 2, 4, 5] : List Nat) := hn
    simp only [fs_, if_true, List.mem_cons, List.not_mem_nil, or_false, not_or] at hf hn
    exact en_imp hi (by omega)
  · intro m
    unfold PS
    rw [hpf]
    refine ls_s (L := (15, M15 (kps H (k * 27 + p) [M16 CO k p, M17 CO k p]) k p sz) :: LP_i D U PL k p) ?_ ?_ ?_ m
    · intro x hx
      rcases List.mem_cons.mp hx with rfl | hx
      · exact m15 h
      · exact hLp x hx
    · intro f hf hn m
      have hn : f ∉ ([15, 13, 14] : List Nat) := hn
      simp only [fs_, Nat.reduceEqDiff, if_true, if_false, List.mem_cons, List.not_mem_nil, or_false, not_or] at hf hn
      omega
    · intro x hx
      rcases List.mem_cons.mp hx with rfl | hx
      · show 15 ∈ fs_ 2; decide
      · exact hfp x hx
  · exact th_s t.1 t.2
theorem eok_g (h : pre_ w sg g E U P H k p D sz PL RS CO AL LI) (hi : sp_perf sg k = false) (hg : k < g) :
    eok w sg g (ups E (((16, M16 CO k p) :: (17, M17 CO k p) :: (15, M15 (kps H (k * 27 + p) [M16 CO k p, M17 CO k p]) k p sz) :: LU_g D PL RS k p).map (fun x => (eix k x.1 p, x.2)))) (kps U (k * 27 + p) ((LU_g D PL RS k p).map (fun x => x.2))) (kps P (k * 27 + p) [M15 (kps H (k * 27 + p) [M16 CO k p, M17 CO k p]) k p sz]) (kps H (k * 27 + p) [M16 CO k p, M17 CO k p]) k p := by
  have hk7 : k < 7 := by have := h.hk; omega
  have t := th_m (sg := sg) (g := g) (p := p) h.s hk7
  have hL : ∀ x ∈ LU_g D PL RS k p, mb x.2 (enE w sg g k x.1 p) := by
    intro x hx
    simp only [LU_g, List.mem_cons, List.not_mem_nil, or_false] at hx
    rcases hx with rfl | rfl | rfl
    · exact no_m (Or.inr hi) (m_1 h.s hk7)
    · exact no_m (Or.inr hi) (m_2 h.s hk7)
    · exact no_m (Or.inl (by omega)) (mb_iff (m_do h.s hk7) (fun m => (cr_18 hg).symm))
  have huf : un_f g k = [1, 2, 18] := by unfold un_f; rw [if_pos hg]
  have hpf : pa_f g k = [15] := by unfold pa_f; rw [if_pos hg]
  have hfs : ∀ x ∈ LU_g D PL RS k p, x.1 ∈ ([1, 2, 18] : List Nat) := by
    intro x hx
    have hm : x.1 ∈ (LU_g D PL RS k p).map (fun x => x.1) := List.mem_map.mpr ⟨x, hx, rfl⟩
    exact (show ∀ f ∈ ([1, 2, 18] : List Nat), f ∈ ([1, 2, 18] : List Nat) by decide) x.1 hm
  refine asm_ok h.z (by have := h.hp; have := h.h24; omega) ?_ ?_ ?_ ?_ ?_ ?_
  · show ([16, 17, 15, 1, 2, 18] : List Nat).Nodup
    decide
  · intro x hx
    rcases List.mem_cons.mp hx with rfl | hx
    · exact ⟨by show 16 < 19; decide, al3 (Or.inl rfl), t.1⟩
    rcases List.mem_cons.mp hx with rfl | hx
    · exact ⟨by show 17 < 19; decide, al3 (Or.inr rfl), t.2⟩
    rcases List.mem_cons.mp hx with rfl | hx
    · exact ⟨by show 15 < 19; decide, al15, m15 h⟩
    · refine ⟨?_, Or.inl (by rw [huf]; exact hfs x hx), hL x hx⟩
      have := hfs x hx
      simp only [List.mem_cons, List.not_mem_nil, or_false] at this
      omega
  · intro f hf hn m
    have hn : f ∉ ([16, 17, 15, 1, 2, 18] : List Nat) := hn
    simp only [List.mem_cons, List.not_mem_nil, or_false, not_or] at hn
    unfold al_f at hf
    rw [huf, hpf] at hf
    simp only [fs_, Nat.reduceEqDiff, if_true, if_false, List.mem_cons, List.not_mem_nil, or_false] at hf
    omega
  · intro m
    unfold US
    rw [huf]
    refine ls_s hL ?_ hfs m
    intro f hf hn m
    have hn : f ∉ ([1, 2, 18] : List Nat) := hn
    exact absurd hf hn
  · intro m
    unfold PS
    rw [hpf]
    refine ls_s (L := [(15, M15 (kps H (k * 27 + p) [M16 CO k p, M17 CO k p]) k p sz)]) ?_ ?_ ?_ m
    · intro x hx
      rw [List.mem_singleton] at hx
      subst hx
      exact m15 h
    · intro f hf hn m
      have hn : f ∉ ([15] : List Nat) := hn
      exact absurd hf hn
    · intro x hx
      rw [List.mem_singleton] at hx
      subst hx
      show 15 ∈ ([15] : List Nat)
      decide
  · exact th_s t.1 t.2
end ASO
