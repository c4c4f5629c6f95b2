/-! rows for values -/
section WRI
/-- rows of choices, in order -/
def ENr : List (List Nat) → List (List Nat)
  | [] => [[]]
  | f :: r => f.flatMap (fun c => (ENr r).map (fun l => c :: l))
theorem flm_at {α β : Type} {E : List β} {g : Nat → β → α} (hE : 0 < E.length) : ∀ (f : List Nat) (r : Nat), (f.flatMap (fun c => E.map (g c)))[r]? = (f[r / E.length]?).bind (fun c => (E[r % E.length]?).map (g c))
  | [], r => by simp
  | c :: f, r => by
    rw [List.flatMap_cons]
    by_cases h : r < E.length
    · rw [List.getElem?_append_left (by rw [List.length_map]; exact h), Nat.div_eq_of_lt h, Nat.mod_eq_of_lt h, List.getElem?_map]
      rfl
    · rw [List.getElem?_append_right (by rw [List.length_map]; omega), List.length_map, flm_at hE f]
      have h1 : r / E.length = (r - E.length) / E.length + 1 := by
        have h2 : r = (r - E.length) + E.length := by omega
        conv => lhs; rw [h2]
        exact Nat.add_div_right _ hE
      have h3 : r % E.length = (r - E.length) % E.length := by
        have h2 : r = (r - E.length) + E.length := by omega
        conv => lhs; rw [h2]
        exact Nat.add_mod_right _ _
      rw [h1, h3]
      rfl
theorem flm_len {α β : Type} {E : List β} {g : Nat → β → α} : ∀ (f : List Nat), (f.flatMap (fun c => E.map (g c))).length = f.length * E.length
  | [] => by simp
  | c :: f => by
    rw [List.flatMap_cons, List.length_append, List.length_map, flm_len f, List.length_cons, Nat.add_mul]
    omega
theorem ENr_len {f : List Nat} {r : List (List Nat)} : (ENr (f :: r)).length = f.length * (ENr r).length := flm_len f
def oddN (cs : List Nat) : Nat := (cs.map (fun c => c % 2)).sum
/-- all turns: how many dots are due, and the row -/
def SQ (m : Nat) (E : List (List Nat)) : List (Nat × List Nat) := (List.range m).flatMap (fun d => E.map (fun x => (d, x)))
theorem SQ_len {m : Nat} {E : List (List Nat)} : (SQ m E).length = m * E.length := by
  unfold SQ
  rw [flm_len, List.length_range]
theorem SQ_at {m t : Nat} {E : List (List Nat)} {cs : List Nat} (hE : 0 < E.length) (ht : t < m * E.length) (hc : E[t % E.length]? = some cs) : (SQ m E)[t]? = some (t / E.length, cs) := by
  unfold SQ
  rw [flm_at hE, hc, List.getElem?_range (Nat.div_lt_of_lt_mul (by rw [Nat.mul_comm]; exact ht))]
  rfl
def wS (l : List (Nat × List Nat)) : List (List Nat) := (l.filter (fun p => oddN p.2 == p.1)).map (fun p => p.2)
theorem wS_cons {d : Nat} {cs : List Nat} {l : List (Nat × List Nat)} : wS ((d, cs) :: l) = if oddN cs = d then cs :: wS l else wS l := by
  unfold wS
  by_cases h : oddN cs = d
  · rw [if_pos h, List.filter_cons_of_pos (by simpa using h), List.map_cons]
  · rw [if_neg h, List.filter_cons_of_neg (by simpa using h)]
/-- choices that fit -/
def fitA : List (List Nat × (Nat → Bool)) → List Nat → Bool
  | [], [] => true
  | q :: L, c :: l => q.2 c && fitA L l
  | _, _ => false
theorem flt_fm {α : Type} {p : Nat → Bool} {g : Nat → List α} : ∀ (f : List Nat), (f.filter p).flatMap g = f.flatMap (fun c => if p c = true then g c else [])
  | [] => rfl
  | c :: f => by
    by_cases h : p c = true
    · rw [List.filter_cons_of_pos h, List.flatMap_cons, List.flatMap_cons, if_pos h, flt_fm f]
    · rw [List.filter_cons_of_neg h, List.flatMap_cons, if_neg h, flt_fm f]
      rfl
theorem ENr_flt : ∀ (L : List (List Nat × (Nat → Bool))), ENr (L.map (fun q => q.1.filter q.2)) = (ENr (L.map (fun q => q.1))).filter (fitA L)
  | [] => rfl
  | q :: L => by
    have ih := ENr_flt L
    show (q.1.filter q.2).flatMap (fun c => (ENr (L.map (fun q => q.1.filter q.2))).map (fun l => c :: l)) = (q.1.flatMap (fun c => (ENr (L.map (fun q => q.1))).map (fun l => c :: l))).filter (fitA (q :: L))
    rw [flt_fm, ih, List.filter_flatMap]
    congr 1
    funext c
    rw [List.filter_map]
    by_cases h : q.2 c = true
    · rw [if_pos h]
      congr 1
      apply List.filter_congr
      intro l _
      show fitA L l = (q.2 c && fitA L l)
      rw [h, Bool.true_and]
    · rw [if_neg h, List.filter_eq_nil_iff.mpr]
      · rfl
      · intro l _
        show ¬ (q.2 c && fitA L l) = true
        rw [Bool.and_eq_true]
        exact fun z => h z.1
theorem find_flt {α : Type} {p q : α → Bool} (h : ∀ a, q a = true → p a = true) : ∀ (l : List α), (l.filter p).find? q = l.find? q
  | [] => rfl
  | a :: l => by
    by_cases hp : p a = true
    · rw [List.filter_cons_of_pos hp]
      by_cases hq : q a = true
      · rw [List.find?_cons_of_pos hq, List.find?_cons_of_pos hq]
      · rw [List.find?_cons_of_neg hq, List.find?_cons_of_neg hq, find_flt h l]
    · rw [List.filter_cons_of_neg hp, List.find?_cons_of_neg (fun z => hp (h a z)), find_flt h l]
theorem wS_flt {m : Nat} {E : List (List Nat)} {p : List Nat → Bool} : wS (SQ m (E.filter p)) = (wS (SQ m E)).filter p := by
  unfold wS SQ
  rw [List.filter_map, List.filter_filter]
  congr 1
  have e : (List.range m).flatMap (fun d => (E.filter p).map (fun x => (d, x))) = ((List.range m).flatMap (fun d => E.map (fun x => (d, x)))).filter (fun z => p z.2) := by
    rw [List.filter_flatMap]
    congr 1
    funext d
    rw [List.filter_map]
    rfl
  rw [e, List.filter_filter]
  apply List.filter_congr
  intro z _
  exact Bool.and_comm _ _
/-- the row of choices -/
def wl (cs : List Nat) : List (Nat × Nat) := cs.flatMap (fun c => if c % 2 = 1 then [(1, c / 2), (3, 0)] else [(1, c / 2)])
theorem wl_cons {c : Nat} {cs : List Nat} : wl (c :: cs) = (if c % 2 = 1 then [(1, c / 2), (3, 0)] else [(1, c / 2)]) ++ wl cs := rfl
def wW (cs : List Nat) : ro_w := ((wl cs).length, fun i => ((wl cs).getD i (0, 0)).1, fun i => ((wl cs).getD i (0, 0)).2, fun _ => false)
/-- the notes' values are those wanted -/
def nk (V : Nat → Nat) (wv : Nat → Int32) : List (Nat × Nat) → Nat → Nat → Bool
  | [], _, _ => true
  | t :: l, i, k => if t.1 = 1 then decide (nI (V i) = wv k) && nk V wv l (i + 1) (k + 1) else nk V wv l (i + 1) k
/-- the row is as wanted -/
def wok (sg : Nat) (wv : Nat → Int32) (cs : List Nat) : Bool := (decide (0 < (rD (wW cs) sg).length) && decide ((rD (wW cs) sg).length ≤ 1000)) && nk (aV ((rD (wW cs) sg).getD 0 ([], []))) wv (wl cs) 0 0
/-- what write finds -/
def wRes (sg n : Nat) (wv : Nat → Int32) : Option (List Nat) := (wS (SQ (n + 1) (ENr (List.replicate n (List.range 14))))).find? (wok sg wv)
def cbB (sg k : Nat) (dt : Bool) (x : Int32) : Bool := decide (x = nI (fl_ sg k)) || ((sp_perf sg k && decide (x = nI (2 * fl_ sg (k + 1)))) || (((decide (1 ≤ k) && sp_perf sg (k - 1)) && decide (x = nI (2 * fl_ sg k))) || ((dt && !sp_perf sg k) && decide (x = nI (3 * (if k < 6 then fl_ sg (k + 1) else 0))))))
theorem cbe_B {sg k v : Nat} {dt : Bool} {x : Int32} (h : cbe sg k dt v) (hx : nI v = x) : cbB sg k dt x = true := by
  subst hx
  unfold cbB
  rcases h with h | ⟨h1, h2⟩ | ⟨h1, h2, h3⟩ | ⟨h1, h2, h3, h4⟩
  · rw [h, decide_eq_true rfl]; rfl
  · rw [h1, h2, decide_eq_true rfl]; simp
  · rw [decide_eq_true h1, h2, h3, decide_eq_true rfl]; simp
  · rw [h1, h3, h4, if_pos h2]; simp
/-- the choices that fit note k on -/
def fitF (sg : Nat) (wv : Nat → Int32) (k c : Nat) : Bool := cbB sg (c / 2) (decide (c % 2 = 1)) (wv k)
def fitL (sg : Nat) (wv : Nat → Int32) : Nat → List Nat → Bool
  | _, [] => true
  | k, c :: cs => fitF sg wv k c && fitL sg wv (k + 1) cs
def FT (sg : Nat) (wv : Nat → Int32) : Nat → Nat → List (List Nat × (Nat → Bool))
  | _, 0 => []
  | k, n + 1 => (List.range 14, fitF sg wv k) :: FT sg wv (k + 1) n
theorem FT_fit {sg : Nat} {wv : Nat → Int32} : ∀ (n k : Nat) (cs : List Nat), cs.length = n → fitL sg wv k cs = true → fitA (FT sg wv k n) cs = true
  | 0, k, cs, hl, h => by rw [List.eq_nil_of_length_eq_zero hl]; rfl
  | n + 1, k, [], hl, h => by cases hl
  | n + 1, k, c :: cs, hl, h => by
    have h : (fitF sg wv k c && fitL sg wv (k + 1) cs) = true := h
    rw [Bool.and_eq_true] at h
    show (fitF sg wv k c && fitA (FT sg wv (k + 1) n) cs) = true
    rw [h.1, FT_fit n (k + 1) cs (Nat.succ.inj hl) h.2]
    rfl
theorem FT_full {sg : Nat} {wv : Nat → Int32} : ∀ (n k : Nat), (FT sg wv k n).map (fun q => q.1) = List.replicate n (List.range 14)
  | 0, k => rfl
  | n + 1, k => by
    show List.range 14 :: (FT sg wv (k + 1) n).map (fun q => q.1) = _
    rw [FT_full n (k + 1), List.replicate_succ]
theorem ENr_mem : ∀ (n : Nat) (cs : List Nat), cs ∈ ENr (List.replicate n (List.range 14)) → cs.length = n ∧ ∀ c ∈ cs, c < 14
  | 0, cs, h => by
    have h : cs ∈ [[]] := h
    rw [List.mem_singleton] at h
    subst h
    exact ⟨rfl, fun c hc => by cases hc⟩
  | n + 1, cs, h => by
    rw [List.replicate_succ] at h
    have h : cs ∈ (List.range 14).flatMap (fun c => (ENr (List.replicate n (List.range 14))).map (fun l => c :: l)) := h
    rw [List.mem_flatMap] at h
    obtain ⟨c, hc, h⟩ := h
    rw [List.mem_map] at h
    obtain ⟨l, hl, rfl⟩ := h
    obtain ⟨h1, h2⟩ := ENr_mem n l hl
    refine ⟨by rw [List.length_cons, h1], fun x hx => ?_⟩
    rcases List.mem_cons.mp hx with e | e
    · rw [e]; exact List.mem_range.mp hc
    · exact h2 x e
end WRI
