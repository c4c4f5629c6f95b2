/-! one entry filled -/
def ups (E : Nat → Nat) (l : List (Nat × Nat)) : Nat → Nat := l.foldl (fun E x => rm_up E x.1 x.2) E
def kps (U : Nat → Nat) (i : Nat) (l : List Nat) : Nat → Nat := l.foldl (fun U M => rm_up U i (U i ||| M)) U
theorem ups_n {i : Nat} : ∀ (l : List (Nat × Nat)) (E : Nat → Nat), (∀ x ∈ l, x.1 ≠ i) → ups E l i = E i
  | [], _, _ => rfl
  | x :: l, E, h => by
    show ups (rm_up E x.1 x.2) l i = E i
    rw [ups_n l _ (fun y hy => h y (List.mem_cons_of_mem _ hy)), rm_up_n (fun z => h x List.mem_cons_self z.symm)]
theorem ups_s {i M : Nat} : ∀ (l : List (Nat × Nat)) (E : Nat → Nat), (i, M) ∈ l → (l.map (fun x => x.1)).Nodup → ups E l i = M
  | [], _, h, _ => by cases h
  | x :: l, E, h, hd => by
    rw [List.map_cons, List.nodup_cons] at hd
    show ups (rm_up E x.1 x.2) l i = M
    rcases List.mem_cons.mp h with e | e
    · subst e
      rw [ups_n l _ (fun y hy z => hd.1 (List.mem_map.mpr ⟨y, hy, z⟩)), rm_up_s]
    · exact ups_s l _ e hd.2
theorem kps_n {i j : Nat} (h : j ≠ i) : ∀ (l : List Nat) (U : Nat → Nat), kps U i l j = U j
  | [], _ => rfl
  | M :: l, U => by
    show kps (rm_up U i (U i ||| M)) i l j = U j
    rw [kps_n h l, rm_up_n h]
theorem kps_bit {i m : Nat} : ∀ (l : List Nat) (U : Nat → Nat), (kps U i l i).testBit m = true ↔ (U i).testBit m = true ∨ ∃ M ∈ l, M.testBit m = true
  | [], U => by
    show (U i).testBit m = true ↔ _
    constructor
    · exact Or.inl
    · rintro (h | ⟨M, h, -⟩)
      · exact h
      · cases h
  | M :: l, U => by
    show (kps (rm_up U i (U i ||| M)) i l i).testBit m = true ↔ _
    rw [kps_bit l, rm_up_s, Nat.testBit_or, Bool.or_eq_true]
    constructor
    · rintro ((h | h) | ⟨N, h1, h2⟩)
      · exact Or.inl h
      · exact Or.inr ⟨M, List.mem_cons_self, h⟩
      · exact Or.inr ⟨N, List.mem_cons_of_mem _ h1, h2⟩
    · rintro (h | ⟨N, h1, h2⟩)
      · exact Or.inl (Or.inl h)
      · rcases List.mem_cons.mp h1 with e | e
        · subst e; exact Or.inl (Or.inr h2)
        · exact Or.inr ⟨N, e, h2⟩
section ASM
variable {w : ro_w} {sg g : Nat} {E U P H : Nat → Nat} {k p : Nat}
theorem eix_inj {k f p k' f' p' : Nat} (hf : f < 19) (hf' : f' < 19) (hp : p < 27) (hp' : p' < 27) (h : eix k f p = eix k' f' p') : k = k' ∧ f = f' ∧ p = p' := by unfold eix at h; omega
theorem asm_ok {L : List (Nat × Nat)} {lu lp lh : List Nat} (hz : ez E U P H k p) (hp : p < 27) (hd : (L.map (fun x => x.1)).Nodup) (hL : ∀ x ∈ L, x.1 < 19 ∧ al_f g k x.1 ∧ mb x.2 (enE w sg g k x.1 p)) (hN : ∀ f, al_f g k f → f ∉ L.map (fun x => x.1) → ∀ m, ¬ enE w sg g k f p m)
    (hu : ∀ m, (∃ M ∈ lu, M.testBit m = true) ↔ US w sg g k p m) (hq : ∀ m, (∃ M ∈ lp, M.testBit m = true) ↔ PS w sg g k p m) (hh : ∀ m, (∃ M ∈ lh, M.testBit m = true) ↔ TH w sg g k p m) :
    eok w sg g (ups E (L.map (fun x => (eix k x.1 p, x.2)))) (kps U (k * 27 + p) lu) (kps P (k * 27 + p) lp) (kps H (k * 27 + p) lh) k p := by
  have kk : ∀ (V : Nat → Nat) (l : List Nat) (S : Nat → Prop), V (k * 27 + p) = 0 → (∀ m, (∃ M ∈ l, M.testBit m = true) ↔ S m) → mb (kps V (k * 27 + p) l (k * 27 + p)) S := by
    intro V l S h0 hS m
    rw [kps_bit, h0, Nat.zero_testBit, ← hS m]
    exact ⟨fun z => z.resolve_left (fun y => Bool.noConfusion y), Or.inr⟩
  refine ⟨fun f hf => ?_, kk U lu _ hz.2.1 hu, kk P lp _ hz.2.2.1 hq, kk H lh _ hz.2.2.2 hh⟩
  by_cases hm : f ∈ L.map (fun x => x.1)
  · rw [List.mem_map] at hm
    obtain ⟨x, hx, e⟩ := hm
    subst e
    obtain ⟨h1, h2, h3⟩ := hL x hx
    rw [ups_s (M := x.2) _ _ (List.mem_map.mpr ⟨x, hx, rfl⟩) ?_]
    · exact mb_iff h3 (fun m => ⟨fun z => ⟨h2, z⟩, fun z => z.2⟩)
    · rw [List.map_map]
      have e : ((fun x : Nat × Nat => x.1) ∘ fun x : Nat × Nat => (eix k x.1 p, x.2)) = (fun f => eix k f p) ∘ (fun x : Nat × Nat => x.1) := rfl
      rw [e, ← List.map_map]
      have inj : ∀ (l : List Nat), (∀ f ∈ l, f < 19) → l.Nodup → (l.map (fun f => eix k f p)).Nodup := by
        intro l
        induction l with
        | nil => intro _ _; exact List.nodup_nil
        | cons a l ih =>
          intro hl hn
          rw [List.nodup_cons] at hn
          rw [List.map_cons, List.nodup_cons]
          refine ⟨fun z => ?_, ih (fun f hf => hl f (List.mem_cons_of_mem _ hf)) hn.2⟩
          rw [List.mem_map] at z
          obtain ⟨b, hb, e⟩ := z
          have := (eix_inj (hl b (List.mem_cons_of_mem _ hb)) (hl a List.mem_cons_self) hp hp e).2.1
          subst this
          exact hn.1 hb
      exact inj _ (fun f hf => by
        rw [List.mem_map] at hf
        obtain ⟨y, hy, rfl⟩ := hf
        exact (hL y hy).1) hd
  · rw [ups_n, hz.1 f hf]
    · exact mb_0 (fun m z => hN f z.1 hm m z.2)
    · intro y hy e
      rw [List.mem_map] at hy
      obtain ⟨x, hx, rfl⟩ := hy
      have := (eix_inj (hL x hx).1 hf hp hp e).2.1
      exact hm (List.mem_map.mpr ⟨x, hx, this⟩)
theorem asm_sm {L : List (Nat × Nat)} {lu lp lh : List Nat} (hL : ∀ x ∈ L, x.1 < 19) (hp : p < 27) (hk : k ≤ 6) : esm E U P H (ups E (L.map (fun x => (eix k x.1 p, x.2)))) (kps U (k * 27 + p) lu) (kps P (k * 27 + p) lp) (kps H (k * 27 + p) lh) k p := by
  constructor
  · intro k' f' p' h1 h2 h3 h4
    apply ups_n
    intro y hy e
    rw [List.mem_map] at hy
    obtain ⟨x, hx, rfl⟩ := hy
    have := eix_inj (hL x hx) h2 hp h3 e
    exact h4 ⟨this.1.symm, this.2.2.symm⟩
  · intro k' p' h1 h2 h3
    have hne : k' * 27 + p' ≠ k * 27 + p := fun z => h3 (by omega)
    exact ⟨kps_n hne _ _, kps_n hne _ _, kps_n hne _ _⟩
/-- what the masks of a kind's next kind mean from place p on -/
def nxU (w : ro_w) (sg g : Nat) (U P : Nat → Nat) (k p : Nat) : Prop := ∀ q, q < 27 → mb (U ((k + 1) * 27 + q)) (fun m => p ≤ q ∧ UN w sg g (k + 1) q m) ∧ mb (P ((k + 1) * 27 + q)) (fun m => p ≤ q ∧ PA w sg g (k + 1) q m)
theorem nx_at {hU : nxU w sg g U P k p} {q : Nat} (hq : q < 27) (hpq : p ≤ q) : mb (U ((k + 1) * 27 + q)) (UN w sg g (k + 1) q) ∧ mb (P ((k + 1) * 27 + q)) (PA w sg g (k + 1) q) :=
  ⟨mb_iff (hU q hq).1 (fun m => ⟨fun z => z.2, fun z => ⟨hpq, z⟩⟩), mb_iff (hU q hq).2 (fun m => ⟨fun z => z.2, fun z => ⟨hpq, z⟩⟩)⟩
/-- behind a set of places from p on -/
theorem nx_aft (hU : nxU w sg g U P k p) {pl sz : Nat} {S : Nat → Prop} (hsz : sz = w.1) (h24 : sz ≤ 24) (hpl : mb pl S) (hS : ∀ q, S q → p ≤ q) : mb (aft_ U ((k + 1) * 27) pl sz) (fun m => ∃ q, S q ∧ UN w sg g (k + 1) q m) ∧ mb (aft_ P ((k + 1) * 27) pl sz) (fun m => ∃ q, S q ∧ PA w sg g (k + 1) q m) := by
  constructor
  · refine mb_iff (mb_aft hpl (R := fun q m => p ≤ q ∧ UN w sg g (k + 1) q m) (fun q hq => (hU q (by omega)).1) (fun q m z => by have := un_lt z.2; omega)) (fun m => ?_)
    exact ⟨fun ⟨q, z1, z2⟩ => ⟨q, z1, z2.2⟩, fun ⟨q, z1, z2⟩ => ⟨q, z1, hS q z1, z2⟩⟩
  · refine mb_iff (mb_aft hpl (R := fun q m => p ≤ q ∧ PA w sg g (k + 1) q m) (fun q hq => (hU q (by omega)).2) (fun q m z => by have := pa_lt z.2; omega)) (fun m => ?_)
    exact ⟨fun ⟨q, z1, z2⟩ => ⟨q, z1, z2.2⟩, fun ⟨q, z1, z2⟩ => ⟨q, z1, hS q z1, z2⟩⟩
theorem th_m {D : Nat} {PL RS CO AL LI : Nat → Nat} (h : sm_ok w D PL RS CO AL LI) (hk : k < 7) : mb ((CO k &&& 1 <<< p) <<< 1) (enE w sg g k 16 p) ∧ mb ((((if k < 6 then CO (k + 1) else 0) &&& ((if k < 6 then CO (k + 1) else 0) >>> 1)) &&& (1 <<< p)) <<< 2) (enE w sg g k 17 p) := by
  constructor
  · exact mb_iff (mb_here (h.2 k hk).2.2.1) (fun m => by rw [en_no (Or.inl (by omega)), cr_16])
  · have hn : mb (if k < 6 then CO (k + 1) else 0) (fun q => k < 6 ∧ ro_dyed w q (k + 1) = true) := by
      by_cases h6 : k < 6
      · rw [if_pos h6]
        exact mb_iff (h.2 (k + 1) (by omega)).2.2.1 (fun m => ⟨fun z => ⟨h6, z⟩, fun z => z.2⟩)
      · rw [if_neg h6]
        exact mb_0 (fun m z => h6 z.1)
    refine mb_iff (mb_here (mb_and hn (mb_shr hn 1))) (fun m => ?_)
    rw [en_no (Or.inl (by omega)), cr_17]
    constructor
    · rintro ⟨⟨z1, z2⟩, z3⟩
      exact ⟨⟨z1.1, z1.2, by rw [Nat.add_comm]; exact z2.2⟩, z3⟩
    · rintro ⟨⟨z1, z2, z3⟩, z4⟩
      exact ⟨⟨⟨z1, z2⟩, z1, by rw [Nat.add_comm]; exact z3⟩, z4⟩
/-- thirds, three of them -/
theorem p15_m {H1 : Nat → Nat} {sz : Nat} (hsz : sz = w.1) (h24 : sz ≤ 24) (hp : p < sz) (hH : ∀ q, q < 27 → mb (H1 (k * 27 + q)) (fun m => p ≤ q ∧ TH w sg g k q m)) : mb (aft_ H1 (k * 27) (aft_ H1 (k * 27) (H1 (k * 27 + p)) sz) sz) (enE w sg g k 15 p) := by
  have a1 := mb_aft (hH p (by omega)) (R := fun q m => p ≤ q ∧ TH w sg g k q m) (n := sz) (fun q hq => hH q (by omega)) (fun q m z => by have := th_lt z.2; omega)
  have a2 := mb_aft a1 (R := fun q m => p ≤ q ∧ TH w sg g k q m) (n := sz) (fun q hq => hH q (by omega)) (fun q m z => by have := th_lt z.2; omega)
  refine mb_iff a2 (fun m => ?_)
  rw [en_no (Or.inl (by omega)), cr_15]
  constructor
  · rintro ⟨q, ⟨n, ⟨-, z1⟩, -, z2⟩, -, z3⟩
    exact ⟨n, z1, q, z2, z3⟩
  · rintro ⟨n, z1, q, z2, z3⟩
    have := th_lt z1
    have := th_lt z2
    exact ⟨q, ⟨n, ⟨Nat.le_refl _, z1⟩, by omega, z2⟩, by omega, z3⟩
end ASM
