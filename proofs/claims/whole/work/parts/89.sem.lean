section ASN
variable {w : ro_w} {sg g : Nat} {E U P H : Nat → Nat} {k p D sz : Nat} {PL RS CO AL LI : Nat → Nat}
def dvm (D m : Nat) : Nat := m ||| ((m &&& D) <<< 1)
theorem dv_m {M : Nat} {f : Nat} (h : sm_ok w D PL RS CO AL LI) (hp : sp_perf sg k = true) (hf : f ≤ 2 ∨ 6 ≤ f ∧ f ≤ 11) (hM : mb M (cr_ w sg g k f p)) : mb (dvm D M) (enE w sg g k f p) := mb_iff (mb_div hM h.1) (fun m => (en_dv hp hf).symm)
theorem no_m {M : Nat} {f : Nat} (hf : ¬ (f ≤ 2 ∨ 6 ≤ f ∧ f ≤ 11) ∨ sp_perf sg k = false) (hM : mb M (cr_ w sg g k f p)) : mb M (enE w sg g k f p) := mb_iff hM (fun m => (en_no hf).symm)
theorem m_1 (h : sm_ok w D PL RS CO AL LI) (hk : k < 7) : mb ((PL k &&& 1 <<< p) <<< 1) (cr_ w sg g k 1 p) := mb_iff (mb_here (h.2 k hk).1) (fun m => cr_1.symm)
theorem m_2 (h : sm_ok w D PL RS CO AL LI) (hk : k < 7) : mb ((RS k &&& 1 <<< p) <<< 1) (cr_ w sg g k 2 p) := mb_iff (mb_here (h.2 k hk).2.1) (fun m => cr_2.symm)
theorem m_do (h : sm_ok w D PL RS CO AL LI) (hk : k < 7) : mb (((PL k &&& D >>> 1) &&& 1 <<< p) <<< 2) (fun m => do_ w p k = true ∧ m = p + 2) := mb_here (mb_do h hk)
theorem m_4 (hU : nxU w sg g U P k p) (hsz : sz = w.1) (h24 : sz ≤ 24) (hp : p < sz) (hi : sp_perf sg k = false) (hk : k < 6) : mb (aft_ U ((k + 1) * 27) (U ((k + 1) * 27 + p)) sz) (cr_ w sg g k 4 p) :=
  mb_iff (nx_aft hU hsz h24 (nx_at (hU := hU) (by omega) (Nat.le_refl _)).1 (fun q z => by have := un_lt z; omega)).1 (fun m => (cr_4 hi hk).symm)
theorem m_5 (hU : nxU w sg g U P k p) (h24 : sz ≤ 24) (hp : p < sz) (hi : sp_perf sg k = false) (hk : k < 6) : mb (P ((k + 1) * 27 + p)) (cr_ w sg g k 5 p) :=
  mb_iff (nx_at (hU := hU) (by omega) (Nat.le_refl _)).2 (fun m => (cr_5 hi hk).symm)
theorem m_6 (hU : nxU w sg g U P k p) (hsz : sz = w.1) (h24 : sz ≤ 24) (hp : p < sz) (hi : sp_perf sg k = true) : mb (aft_ U ((k + 1) * 27) (aft_ U ((k + 1) * 27) (U ((k + 1) * 27 + p)) sz) sz) (cr_ w sg g k 6 p) := by
  have a1 := (nx_aft hU hsz h24 (nx_at (hU := hU) (by omega) (Nat.le_refl _)).1 (fun q z => by have := un_lt z; omega)).1
  have a2 := (nx_aft hU hsz h24 a1 (fun q ⟨n, z1, z2⟩ => by have := un_lt z1; have := un_lt z2; omega)).1
  refine mb_iff a2 (fun m => ?_)
  rw [cr_6 hi]
  exact ⟨fun ⟨q, ⟨n, z1, z2⟩, z3⟩ => ⟨n, z1, q, z2, z3⟩, fun ⟨n, z1, q, z2, z3⟩ => ⟨q, ⟨n, z1, z2⟩, z3⟩⟩
theorem m_7 (h : sm_ok w D PL RS CO AL LI) (hU : nxU w sg g U P k p) (h24 : sz ≤ 24) (hp : p < sz) (hi : sp_perf sg k = true) (hk : k < 7) : mb (if PL k &&& 1 <<< p ≠ 0 then U ((k + 1) * 27 + (p + 1)) else 0) (cr_ w sg g k 7 p) := by
  refine mb_iff (mb_if (nx_at (hU := hU) (q := p + 1) (by omega) (by omega)).1) (fun m => ?_)
  rw [cr_7 hi, mb_ne (mb_and1 (h.2 k hk).1)]
  exact ⟨fun ⟨⟨n, z1, _⟩, z2⟩ => ⟨z1, z2⟩, fun ⟨z1, z2⟩ => ⟨⟨p, z1, rfl⟩, z2⟩⟩
theorem m_8 (h : sm_ok w D PL RS CO AL LI) (hU : nxU w sg g U P k p) (h24 : sz ≤ 24) (hp : p < sz) (hi : sp_perf sg k = true) : mb ((U ((k + 1) * 27 + p) &&& AL (k + 1)) <<< 1) (cr_ w sg g k 8 p) := by
  have hk := perf_lt hi
  refine mb_iff (mb_shl (mb_and (nx_at (hU := hU) (by omega) (Nat.le_refl _)).1 (h.2 (k + 1) (by omega)).2.2.2.1) 1) (fun m => ?_)
  rw [cr_8 hi]
  exact ⟨fun ⟨q, z1, z2⟩ => ⟨q, z1.1, z1.2, z2⟩, fun ⟨q, z1, z2, z3⟩ => ⟨q, ⟨z1, z2⟩, z3⟩⟩
theorem m_9 (h : sm_ok w D PL RS CO AL LI) (hU : nxU w sg g U P k p) (h24 : sz ≤ 24) (hp : p < sz) (hi : sp_perf sg k = true) : mb ((U ((k + 1) * 27 + p) &&& LI k) <<< 1) (cr_ w sg g k 9 p) := by
  have hk := perf_lt hi
  refine mb_iff (mb_shl (mb_and (nx_at (hU := hU) (by omega) (Nat.le_refl _)).1 (h.2 k (by omega)).2.2.2.2) 1) (fun m => ?_)
  rw [cr_9 hi]
  exact ⟨fun ⟨q, z1, z2⟩ => ⟨q, z1.1, z1.2, z2⟩, fun ⟨q, z1, z2, z3⟩ => ⟨q, ⟨z1, z2⟩, z3⟩⟩
theorem m_10 (hU : nxU w sg g U P k p) (hsz : sz = w.1) (h24 : sz ≤ 24) (hp : p < sz) (hi : sp_perf sg k = true) : mb (aft_ P ((k + 1) * 27) (U ((k + 1) * 27 + p)) sz) (cr_ w sg g k 10 p) :=
  mb_iff (nx_aft hU hsz h24 (nx_at (hU := hU) (by omega) (Nat.le_refl _)).1 (fun q z => by have := un_lt z; omega)).2 (fun m => (cr_10 hi).symm)
theorem m_11 (hU : nxU w sg g U P k p) (hsz : sz = w.1) (h24 : sz ≤ 24) (hp : p < sz) (hi : sp_perf sg k = true) : mb (aft_ U ((k + 1) * 27) (P ((k + 1) * 27 + p)) sz) (cr_ w sg g k 11 p) :=
  mb_iff (nx_aft hU hsz h24 (nx_at (hU := hU) (by omega) (Nat.le_refl _)).2 (fun q z => by have := pa_lt z; omega)).1 (fun m => (cr_11 hi).symm)
theorem m_13 (h : sm_ok w D PL RS CO AL LI) (hU : nxU w sg g U P k p) (h24 : sz ≤ 24) (hp : p < sz) (hi : sp_perf sg k = false) (hk : k < 6) : mb (if (PL k &&& D >>> 1) &&& 1 <<< p ≠ 0 then U ((k + 1) * 27 + (p + 2)) else 0) (cr_ w sg g k 13 p) := by
  refine mb_iff (mb_if (nx_at (hU := hU) (q := p + 2) (by omega) (by omega)).1) (fun m => ?_)
  rw [cr_13 hi hk, mb_ne (mb_and1 (mb_do h (by omega)))]
  exact ⟨fun ⟨⟨n, z1, _⟩, z2⟩ => ⟨z1, z2⟩, fun ⟨z1, z2⟩ => ⟨⟨p, z1, rfl⟩, z2⟩⟩
theorem m_14 (h : sm_ok w D PL RS CO AL LI) (hU : nxU w sg g U P k p) (h24 : sz ≤ 24) (hp : p < sz) (hi : sp_perf sg k = false) (hk : k < 6) : mb ((U ((k + 1) * 27 + p) &&& (PL k &&& D >>> 1)) <<< 2) (cr_ w sg g k 14 p) := by
  refine mb_iff (mb_shl (mb_and (nx_at (hU := hU) (by omega) (Nat.le_refl _)).1 (mb_do h (by omega))) 2) (fun m => ?_)
  rw [cr_14 hi hk]
  exact ⟨fun ⟨q, z1, z2⟩ => ⟨q, z1.1, z1.2, z2⟩, fun ⟨q, z1, z2, z3⟩ => ⟨q, ⟨z1, z2⟩, z3⟩⟩
/-- the smallest kind is made of nothing smaller -/
theorem m_z {f M : Nat} (h6 : 6 ≤ k) (hf : f = 4 ∨ f = 5 ∨ f = 13 ∨ f = 14) (hM : M = 0) : mb M (enE w sg g k f p) := by
  rw [hM]
  apply mb_0
  intro m z
  rw [en_no (Or.inl (by omega))] at z
  have h1 := z.1
  rcases hf with rfl | rfl | rfl | rfl
  · rw [hd_ip 4 (by omega)] at h1; simp at h1; omega
  · rw [hd_ip 5 (by omega)] at h1; simp at h1; omega
  · have h2 : ((!(sp_perf sg k) && decide (k < 6)) && (ro_plain w p k && ro_dot w (p + 1))) = true := h1
    simp at h2; omega
  · rw [hd_ip 14 (by omega)] at h1; simp at h1; omega
theorem en_perf {f m : Nat} (hi : sp_perf sg k = true) (hf : f = 4 ∨ f = 5 ∨ f = 13 ∨ f = 14) : ¬ enE w sg g k f p m := by
  intro z
  rw [en_no (Or.inl (by omega))] at z
  have h1 := z.1
  rcases hf with rfl | rfl | rfl | rfl
  · rw [hd_ip 4 (by omega), hi] at h1; simp at h1
  · rw [hd_ip 5 (by omega), hi] at h1; simp at h1
  · have h2 : ((!(sp_perf sg k) && decide (k < 6)) && (ro_plain w p k && ro_dot w (p + 1))) = true := h1
    rw [hi] at h2; simp at h2
  · rw [hd_ip 14 (by omega), hi] at h1; simp at h1
theorem en_imp {f m : Nat} (hi : sp_perf sg k = false) (hf : f = 3 ∨ f = 6 ∨ f = 7 ∨ f = 8 ∨ f = 9 ∨ f = 10 ∨ f = 11) : ¬ enE w sg g k f p m := by
  intro z
  have z1 : cr_ w sg g k f p m := by
    by_cases h : f ≤ 2 ∨ 6 ≤ f ∧ f ≤ 11
    · rw [en_no (Or.inr hi)] at z; exact z
    · rw [en_no (Or.inl h)] at z; exact z
  have h1 := z1.1
  by_cases h7 : f = 7
  · subst h7
    have h2 : (sp_perf sg k && ro_plain w p k) = true := h1
    rw [hi] at h2; simp at h2
  · by_cases h3 : f = 3
    · subst h3
      have h2 : (sp_perf sg k && (ro_plain w p k && ro_dot w (p + 1))) = true := h1
      rw [hi] at h2; simp at h2
    · rw [hd_pf f (by omega), hi] at h1
      cases h1
theorem th_s {M16 M17 : Nat} (h16 : mb M16 (enE w sg g k 16 p)) (h17 : mb M17 (enE w sg g k 17 p)) (m : Nat) : (∃ M ∈ [M16, M17], M.testBit m = true) ↔ TH w sg g k p m := by
  rw [th_en]
  constructor
  · rintro ⟨M, hM, hb⟩
    simp only [List.mem_cons, List.not_mem_nil, or_false] at hM
    rcases hM with rfl | rfl
    · exact ⟨16, by decide, (h16 m).mp hb⟩
    · exact ⟨17, by decide, (h17 m).mp hb⟩
  · rintro ⟨f, hf, hb⟩
    simp only [fs_, Nat.reduceEqDiff, if_false, List.mem_cons, List.not_mem_nil, or_false] at hf
    rcases hf with rfl | rfl
    · exact ⟨M16, by simp, (h16 m).mpr hb⟩
    · exact ⟨M17, by simp, (h17 m).mpr hb⟩
/-- masks and forms, side by side -/
theorem ls_s {L : List (Nat × Nat)} (hL : ∀ x ∈ L, mb x.2 (enE w sg g k x.1 p)) {F : List Nat} (hF : ∀ f ∈ F, f ∉ L.map (fun x => x.1) → ∀ m, ¬ enE w sg g k f p m) (hs : ∀ x ∈ L, x.1 ∈ F) (m : Nat) : (∃ M ∈ L.map (fun x => x.2), M.testBit m = true) ↔ ∃ f, f ∈ F ∧ enE w sg g k f p m := by
  constructor
  · rintro ⟨M, hM, hb⟩
    rw [List.mem_map] at hM
    obtain ⟨x, hx, rfl⟩ := hM
    exact ⟨x.1, hs x hx, (hL x hx m).mp hb⟩
  · rintro ⟨f, hf, hb⟩
    by_cases hm : f ∈ L.map (fun x => x.1)
    · rw [List.mem_map] at hm
      obtain ⟨x, hx, rfl⟩ := hm
      exact ⟨x.2, List.mem_map.mpr ⟨x, hx, rfl⟩, (hL x hx m).mpr hb⟩
    · exact absurd hb (hF f hf hm m)
end ASN
