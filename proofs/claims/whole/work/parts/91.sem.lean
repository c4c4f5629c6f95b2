/-! the symbols' masks, filled from the end on; the tables' loops -/
/-- the kind of what comes next, 7 if nothing comes -/
def nx7 (w : ro_w) (p : Nat) : Nat := if ro_next w p = -1 then 7 else (ro_next w p).toNat
section SYM
variable {w : ro_w} {sg g : Nat}
theorem nx7_end {p : Nat} (h : w.1 ≤ p + 1) : nx7 w p = 7 := by
  unfold nx7 ro_next
  rw [show w.1 - (p + 1) = 0 from by omega]
  show (if (if p + 1 < w.1 then _ else (-1 : Int)) = -1 then 7 else _) = 7
  rw [if_neg (show ¬ p + 1 < w.1 by omega), if_pos rfl]
theorem nx7_step {p : Nat} (h : p + 1 < w.1) : nx7 w p = if ro_dot w (p + 1) = true then nx7 w (p + 1) else w.2.2.1 (p + 1) := by
  have e : ro_skip w (w.1 - (p + 1)) (p + 1) = if ro_dot w (p + 1) = true then ro_skip w (w.1 - (p + 1 + 1)) (p + 1 + 1) else p + 1 := by
    rw [show w.1 - (p + 1) = (w.1 - (p + 1 + 1)) + 1 from by omega]
    rfl
  unfold nx7 ro_next
  rw [e]
  by_cases hd : ro_dot w (p + 1) = true
  · rw [if_pos hd, if_pos hd]
  · rw [if_neg hd, if_neg hd, if_pos h]
    rw [if_neg (by omega)]
    rfl
theorem nx7_al {p k : Nat} (hk : k < 7) (h7 : ∀ i, i < w.1 → w.2.2.1 i < 7) : al_ w p k = (ro_plain w p k && decide (nx7 w p < k)) := by
  unfold al_ nx7
  by_cases h : ro_next w p = -1
  · rw [if_pos h, h]
    simp
    intro _
    omega
  · rw [if_neg h]
    have hn : 0 ≤ ro_next w p := by
      unfold ro_next at h ⊢
      split
      · omega
      · next z => rw [if_neg z] at h; exact absurd rfl h
    congr 1
    rw [decide_eq_true hn, Bool.true_and]
    by_cases z : ro_next w p < k
    · rw [decide_eq_true z, decide_eq_true (by omega)]
    · rw [decide_eq_false z, decide_eq_false (by omega)]
theorem nx7_li {p k : Nat} (hk : k < 7) : li_ w p k = (ro_plain w p k && decide (nx7 w p ≠ k)) := by
  unfold li_ nx7
  by_cases h : ro_next w p = -1
  · rw [if_pos h, h]
    congr 1
    rw [decide_eq_false (by omega), decide_eq_true (by omega)]
    rfl
  · rw [if_neg h]
    have hn : 0 ≤ ro_next w p := by
      unfold ro_next at h ⊢
      split
      · omega
      · next z => rw [if_neg z] at h; exact absurd rfl h
    congr 1
    by_cases z : ro_next w p = k
    · rw [decide_eq_true z, decide_eq_false (by omega)]
      rfl
    · rw [decide_eq_false z, decide_eq_true (by omega)]
      rfl
/-- masks of the symbols from p on -/
def smp (w : ro_w) (p D : Nat) (PL RS CO AL LI : Nat → Nat) : Prop := mb D (fun q => p ≤ q ∧ ro_dot w q = true) ∧ ∀ k, k < 7 → mb (PL k) (fun q => p ≤ q ∧ ro_plain w q k = true) ∧ mb (RS k) (fun q => p ≤ q ∧ ro_rest w q k = true) ∧ mb (CO k) (fun q => p ≤ q ∧ ro_dyed w q k = true) ∧ mb (AL k) (fun q => p ≤ q ∧ al_ w q k = true) ∧ mb (LI k) (fun q => p ≤ q ∧ li_ w q k = true)
theorem smp_0 {D : Nat} {PL RS CO AL LI : Nat → Nat} (h : smp w 0 D PL RS CO AL LI) : sm_ok w D PL RS CO AL LI := by
  have e : ∀ {M : Nat} {S : Nat → Prop}, mb M (fun q => 0 ≤ q ∧ S q) → mb M S := fun h => mb_iff h (fun m => ⟨fun z => z.2, fun z => ⟨Nat.zero_le _, z⟩⟩)
  exact ⟨e h.1, fun k hk => ⟨e (h.2 k hk).1, e (h.2 k hk).2.1, e (h.2 k hk).2.2.1, e (h.2 k hk).2.2.2.1, e (h.2 k hk).2.2.2.2⟩⟩
theorem smp_end {p : Nat} (hp : w.1 ≤ p) : smp w p 0 (fun _ => 0) (fun _ => 0) (fun _ => 0) (fun _ => 0) (fun _ => 0) := by
  refine ⟨mb_0 (fun m z => by have := dot_lt z.2; omega), fun k _ => ⟨mb_0 (fun m z => by have := plain_lt z.2; omega), mb_0 (fun m z => by have := rest_lt z.2; omega), mb_0 (fun m z => by have := dyed_lt z.2; omega), mb_0 (fun m z => ?_), mb_0 (fun m z => ?_)⟩⟩
  · have h := z.2
    unfold al_ at h
    rw [Bool.and_eq_true] at h
    have := plain_lt h.1
    omega
  · have h := z.2
    unfold li_ at h
    rw [Bool.and_eq_true] at h
    have := plain_lt h.1
    omega
/-- place p more: a bit, where it is so -/
theorem mb_more {M p : Nat} {S : Nat → Prop} {b : Prop} (h : mb M (fun q => p + 1 ≤ q ∧ S q)) (hb : b ↔ S p) [Decidable b] : mb (M ||| (if b then 1 <<< p else 0)) (fun q => p ≤ q ∧ S q) := by
  refine mb_iff (mb_or h (mb_if (mb_one p))) (fun q => ?_)
  constructor
  · rintro (⟨z1, z2⟩ | ⟨z1, z2⟩)
    · exact ⟨by omega, z2⟩
    · subst z2; exact ⟨Nat.le_refl _, hb.mp z1⟩
  · rintro ⟨z1, z2⟩
    by_cases e : q = p
    · subst e; exact Or.inr ⟨hb.mpr z2, rfl⟩
    · exact Or.inl ⟨by omega, z2⟩
theorem mb_same {M p : Nat} {S : Nat → Prop} (h : mb M (fun q => p + 1 ≤ q ∧ S q)) (hb : ¬ S p) : mb M (fun q => p ≤ q ∧ S q) := mb_iff h (fun q => ⟨fun z => ⟨by omega, z.2⟩, fun z => ⟨by
  by_cases e : q = p
  · exact absurd (e ▸ z.2) hb
  · have := z.1; omega, z.2⟩⟩)
theorem mb_p1 {M p : Nat} {S : Nat → Prop} (h : mb M (fun q => p + 1 ≤ q ∧ S q)) (hb : S p) : mb (M ||| 1 <<< p) (fun q => p ≤ q ∧ S q) := by
  have := mb_more (b := True) h ⟨fun _ => hb, fun _ => trivial⟩
  rw [if_pos trivial] at this
  exact this
/-- what is at place p -/
theorem smp_dot {p D : Nat} {PL RS CO AL LI : Nat → Nat} (h : smp w (p + 1) D PL RS CO AL LI) (hd : ro_dot w p = true) : smp w p (D ||| 1 <<< p) PL RS CO AL LI := by
  refine ⟨mb_p1 h.1 hd, fun k hk => ⟨mb_same (h.2 k hk).1 ?_, mb_same (h.2 k hk).2.1 ?_, mb_same (h.2 k hk).2.2.1 ?_, mb_same (h.2 k hk).2.2.2.1 ?_, mb_same (h.2 k hk).2.2.2.2 ?_⟩⟩
  · rw [plain_dot hd]; decide
  · rw [rest_dot hd]; decide
  · rw [dyed_dot hd]; decide
  · unfold al_; rw [plain_dot hd]; simp
  · unfold li_; rw [plain_dot hd]; simp
theorem sym_no {p : Nat} (hp : p < w.1) : (w.2.1 p ≠ 3 → ro_dot w p = false) ∧ (∀ k, w.2.1 p = 2 → ro_plain w p k = false ∧ ro_dyed w p k = false) ∧ (∀ k, w.2.1 p = 1 → ro_rest w p k = false) ∧ (∀ k, w.2.1 p = 1 → w.2.2.2 p = true → ro_plain w p k = false) ∧ (∀ k, w.2.1 p = 1 → w.2.2.2 p = false → ro_dyed w p k = false) := by
  refine ⟨fun h => ?_, fun k h => ⟨?_, ?_⟩, fun k h => ?_, fun k h hc => ?_, fun k h hc => ?_⟩
  · unfold ro_dot; simp [h]
  · unfold ro_plain; simp [h]
  · unfold ro_dyed; simp [h]
  · unfold ro_rest; simp [h]
  · unfold ro_plain; simp [h, hc]
  · unfold ro_dyed; simp [h, hc]
/-- one kind's mask more, the others the same -/
theorem up_k {T : Nat → Nat} {k0 M : Nat} {Q : Nat → Nat → Prop} (h1 : mb M (Q k0)) (h2 : ∀ k, k < 7 → k ≠ k0 → mb (T k) (Q k)) : ∀ k, k < 7 → mb (rm_up T k0 M k) (Q k) := by
  intro k hk
  by_cases e : k = k0
  · subst e; rw [rm_up_s]; exact h1
  · rw [rm_up_n e]; exact h2 k hk e
theorem smp_rest {p k0 D : Nat} {PL RS CO AL LI : Nat → Nat} (h : smp w (p + 1) D PL RS CO AL LI) (hp : p < w.1) (hs : w.2.1 p = 2) (hk : w.2.2.1 p = k0) (hk0 : k0 < 7) : smp w p D PL (rm_up RS k0 (RS k0 ||| 1 <<< p)) CO AL LI := by
  obtain ⟨n1, n2, n3, n4, n5⟩ := sym_no hp
  have hr : ∀ k, ro_rest w p k = decide (k = k0) := fun k => by
    unfold ro_rest; rw [decide_eq_true hp, decide_eq_true hs, hk]; simp; exact eq_comm
  have hRS := up_k (T := RS) (Q := fun k q => p ≤ q ∧ ro_rest w q k = true) (mb_p1 (h.2 k0 hk0).2.1 (by rw [hr]; simp)) (fun k hk e => mb_same (h.2 k hk).2.1 (by rw [hr]; simp [e]))
  refine ⟨mb_same h.1 (by rw [n1 (by omega)]; decide), fun k hk => ⟨mb_same (h.2 k hk).1 (by rw [(n2 k hs).1]; decide), hRS k hk, mb_same (h.2 k hk).2.2.1 (by rw [(n2 k hs).2]; decide), mb_same (h.2 k hk).2.2.2.1 ?_, mb_same (h.2 k hk).2.2.2.2 ?_⟩⟩
  · unfold al_; rw [(n2 k hs).1]; simp
  · unfold li_; rw [(n2 k hs).1]; simp
theorem smp_dyed {p k0 D : Nat} {PL RS CO AL LI : Nat → Nat} (h : smp w (p + 1) D PL RS CO AL LI) (hp : p < w.1) (hs : w.2.1 p = 1) (hc : w.2.2.2 p = true) (hk : w.2.2.1 p = k0) (hk0 : k0 < 7) : smp w p D PL RS (rm_up CO k0 (CO k0 ||| 1 <<< p)) AL LI := by
  obtain ⟨n1, n2, n3, n4, n5⟩ := sym_no hp
  have hr : ∀ k, ro_dyed w p k = decide (k = k0) := fun k => by
    unfold ro_dyed; rw [decide_eq_true hp, decide_eq_true hs, hk, hc]; simp; exact eq_comm
  have hCO := up_k (T := CO) (Q := fun k q => p ≤ q ∧ ro_dyed w q k = true) (mb_p1 (h.2 k0 hk0).2.2.1 (by rw [hr]; simp)) (fun k hk e => mb_same (h.2 k hk).2.2.1 (by rw [hr]; simp [e]))
  refine ⟨mb_same h.1 (by rw [n1 (by omega)]; decide), fun k hk => ⟨mb_same (h.2 k hk).1 (by rw [n4 k hs hc]; decide), mb_same (h.2 k hk).2.1 (by rw [n3 k hs]; decide), hCO k hk, mb_same (h.2 k hk).2.2.2.1 ?_, mb_same (h.2 k hk).2.2.2.2 ?_⟩⟩
  · unfold al_; rw [n4 k hs hc]; simp
  · unfold li_; rw [n4 k hs hc]; simp
theorem smp_plain {p k0 D : Nat} {PL RS CO AL LI : Nat → Nat} (h : smp w (p + 1) D PL RS CO AL LI) (hp : p < w.1) (hs : w.2.1 p = 1) (hc : w.2.2.2 p = false) (hk : w.2.2.1 p = k0) (hk0 : k0 < 7) (h7 : ∀ i, i < w.1 → w.2.2.1 i < 7) : smp w p D (rm_up PL k0 (PL k0 ||| 1 <<< p)) RS CO (rm_up AL k0 (AL k0 ||| (if nx7 w p < k0 then 1 <<< p else 0))) (rm_up LI k0 (LI k0 ||| (if nx7 w p ≠ k0 then 1 <<< p else 0))) := by
  obtain ⟨n1, n2, n3, n4, n5⟩ := sym_no hp
  have hr : ∀ k, ro_plain w p k = decide (k = k0) := fun k => by
    unfold ro_plain; rw [decide_eq_true hp, decide_eq_true hs, hk, hc]; simp; exact eq_comm
  have hPL := up_k (T := PL) (Q := fun k q => p ≤ q ∧ ro_plain w q k = true) (mb_p1 (h.2 k0 hk0).1 (by rw [hr]; simp)) (fun k hk e => mb_same (h.2 k hk).1 (by rw [hr]; simp [e]))
  have hAL := up_k (T := AL) (Q := fun k q => p ≤ q ∧ al_ w q k = true) (mb_more (b := nx7 w p < k0) (h.2 k0 hk0).2.2.2.1 (by rw [nx7_al hk0 h7, hr]; simp)) (fun k hk e => mb_same (h.2 k hk).2.2.2.1 (by rw [nx7_al hk h7, hr]; simp [e]))
  have hLI := up_k (T := LI) (Q := fun k q => p ≤ q ∧ li_ w q k = true) (mb_more (b := nx7 w p ≠ k0) (h.2 k0 hk0).2.2.2.2 (by rw [nx7_li hk0, hr]; simp)) (fun k hk e => mb_same (h.2 k hk).2.2.2.2 (by rw [nx7_li hk, hr]; simp [e]))
  exact ⟨mb_same h.1 (by rw [n1 (by omega)]; decide), fun k hk => ⟨hPL k hk, mb_same (h.2 k hk).2.1 (by rw [n3 k hs]; decide), mb_same (h.2 k hk).2.2.1 (by rw [n5 k hs hc]; decide), hAL k hk, hLI k hk⟩⟩
/-! the loops over places and kinds -/
def cdn (p k : Nat) : Nat → Nat → Prop := fun k' p' => p < p' ∨ (p' = p ∧ k ≤ k')
theorem pre_of {E U P H : Nat → Nat} {k p D sz : Nat} {PL RS CO AL LI : Nat → Nat} (h : ivC w sg g E U P H (cdn p (k + 1))) (hs : sm_ok w D PL RS CO AL LI) (hsz : sz = w.1) (h24 : sz ≤ 24) (hp : p < sz) (hk : k ≤ 6) : pre_ w sg g E U P H k p D sz PL RS CO AL LI := by
  refine ⟨(h k p hk (by omega)).2 (fun z => by unfold cdn at z; omega), hs, hsz, h24, hp, hk, fun q hq hne => ?_⟩
  by_cases hc : p < q
  · exact mb_iff ((h k q hk hq).1 (Or.inl hc)).2.2.2 (fun m => ⟨fun z => ⟨by omega, z⟩, fun z => z.2⟩)
  · rw [((h k q hk hq).2 (fun z => by unfold cdn at z; omega)).2.2.2]
    exact mb_0 (fun m z => by have := z.1; omega)
theorem nxU_of {E U P H : Nat → Nat} {k p : Nat} (h : ivC w sg g E U P H (cdn p (k + 1))) (hz : ∀ j, 189 ≤ j → U j = 0 ∧ P j = 0) (hg : g ≤ k) (hk : k ≤ 6) : nxU w sg g U P k p := by
  intro q hq
  by_cases h6 : k = 6
  · subst h6
    have e := hz ((6 + 1) * 27 + q) (by omega)
    rw [e.1, e.2]
    constructor
    · exact mb_0 (fun m z => by have h1 := z.2; unfold UN at h1; rw [pU_7 (by omega)] at h1; exact Rm_nil h1)
    · exact mb_0 (fun m z => by have h1 := z.2; unfold PA at h1; rw [pP_7 (by omega)] at h1; exact Rm_nil h1)
  · by_cases hc : p ≤ q
    · have he := (h (k + 1) q (by omega) hq).1 (by unfold cdn; omega)
      exact ⟨mb_iff he.2.1 (fun m => ⟨fun z => ⟨hc, (US_g (by omega) (by omega)).mp z⟩, fun z => (US_g (by omega) (by omega)).mpr z.2⟩), mb_iff he.2.2.1 (fun m => ⟨fun z => ⟨hc, (PS_g (by omega) (by omega)).mp z⟩, fun z => (PS_g (by omega) (by omega)).mpr z.2⟩)⟩
    · have he := (h (k + 1) q (by omega) hq).2 (fun z => by unfold cdn at z; omega)
      rw [he.2.1, he.2.2.1]
      exact ⟨mb_0 (fun m z => hc z.1), mb_0 (fun m z => hc z.1)⟩
theorem iv_down {E U P H E' U' P' H' : Nat → Nat} {k p : Nat} (h : ivC w sg g E U P H (cdn p (k + 1))) (hs : esm E U P H E' U' P' H' k p) (hk : eok w sg g E' U' P' H' k p) : ivC w sg g E' U' P' H' (cdn p k) := ivC_step h hs hk (fun k' p' => by unfold cdn; omega)
theorem iv_next {E U P H : Nat → Nat} {p : Nat} (h : ivC w sg g E U P H (cdn (p + 1) 0)) : ivC w sg g E U P H (cdn p 7) := by
  intro k' p' h1 h2
  have := h k' p' h1 h2
  exact ⟨fun z => this.1 (by unfold cdn at z ⊢; omega), fun z => this.2 (fun y => z (by unfold cdn at y ⊢; omega))⟩
theorem iv_begin {E U P H : Nat → Nat} {p : Nat} (hz : ∀ k p', k ≤ 6 → p' < 27 → ez E U P H k p') (hp : w.1 ≤ p + 1) : ivC w sg g E U P H (cdn p 7) := fun k' p' h1 h2 => ⟨fun z => eok_out (by unfold cdn at z; omega) (hz k' p' h1 h2), fun _ => hz k' p' h1 h2⟩
end SYM
