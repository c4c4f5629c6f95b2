/-! going through the readings one choice after the other -/
section DFS
variable {w : ro_w} {sg g : Nat}
/-- a chain of tasks can be done from place p on, to the row's end -/
def lvE (w : ro_w) (sg g : Nat) (ts : List gK) (p : Nat) : Prop := gE w sg g (pR w sg g) ts p ≠ []
theorem Br_pp (hk : rk_ w sg g) (q : Nat) : ((Br w sg g q).flatMap ex_).Perm (pR w sg g q) := by
  by_cases h : q ≤ w.1
  · exact Br_p (show g ≤ 6 by have := hk.2.1; omega) hk.2.2.2 (w.1 - q) q (by omega)
  · rw [Br_end (by omega), pR_end (by omega)]
    exact List.Perm.refl _
theorem Br_okk (hg : g ≤ 6) : ∀ q, q ≤ w.1 → ∀ x ∈ Br w sg g q, ok1 w q 0 x := fun q hq => Br_ok1 hg (w.1 - q) q (by omega)
theorem Bt_live (hk : rk_ w sg g) {ts : List gK} {p : Nat} (ht : kk_ ts) (hp : p ≤ w.1) : Bt w sg g (Br w sg g) ts p ≠ [] ↔ lvE w sg g ts p := by
  have hg : g ≤ 6 := by have := hk.2.1; omega
  have hP := Bt_p (w := w) (sg := sg) (g := g) (Br_pp hk) (fun q hq => pR_dot hq) hk.2.2.2 ts p ht
  have hO := Bt_ok1 (sg := sg) (g := g) (row := Br w sg g) (Br_okk hg) ts p ht hp
  unfold lvE
  constructor
  · intro h e
    rw [e] at hP
    have h0 := hP.eq_nil
    cases hB : Bt w sg g (Br w sg g) ts p with
    | nil => exact h hB
    | cons x l =>
      rw [hB, List.flatMap_cons] at h0
      have h1 := (List.append_eq_nil_iff.mp h0).1
      have h2 := (hO x (by rw [hB]; exact List.mem_cons_self)).2.1
      unfold ex_ at h1
      rw [List.replicate_eq_nil_iff] at h1
      omega
  · intro h e
    rw [e] at hP
    exact h (hP.symm.eq_nil)
theorem gk_ne {A : gM} {f : Nat → List gR} : gk A f ≠ [] ↔ ∃ x ∈ A, f x.2 ≠ [] := by
  unfold gk
  constructor
  · intro h
    cases hB : A.flatMap (fun x => (f x.2).map (gc x.1)) with
    | nil => exact absurd hB h
    | cons y l =>
      have : y ∈ A.flatMap (fun x => (f x.2).map (gc x.1)) := by rw [hB]; exact List.mem_cons_self
      rw [List.mem_flatMap] at this
      obtain ⟨x, hx, hy⟩ := this
      refine ⟨x, hx, fun e => ?_⟩
      rw [e] at hy
      cases hy
  · rintro ⟨x, hx, hf⟩ e
    cases hB : f x.2 with
    | nil => exact hf hB
    | cons z l =>
      have : gc x.1 z ∈ A.flatMap (fun x => (f x.2).map (gc x.1)) := List.mem_flatMap.mpr ⟨x, hx, List.mem_map.mpr ⟨z, by rw [hB]; exact List.mem_cons_self, rfl⟩⟩
      rw [e] at this
      cases this
/-- form f of kind k can go from p to m -/
def enE (w : ro_w) (sg g k f p m : Nat) : Prop := ∃ x, (x, m) ∈ pF w sg g k f p
theorem lv_form {k f p : Nat} {r : List gK} : gk (pF w sg g k f p) (gE w sg g (pR w sg g) r) ≠ [] ↔ ∃ m, enE w sg g k f p m ∧ lvE w sg g r m := by
  rw [gk_ne]
  constructor
  · rintro ⟨x, hx, h⟩
    exact ⟨x.2, ⟨x.1, hx⟩, h⟩
  · rintro ⟨m, ⟨x, hx⟩, h⟩
    exact ⟨(x, m), hx, h⟩
/-- a task and what is behind -/
theorem lv_cons {t : gK} {r : List gK} {p : Nat} : lvE w sg g (t :: r) p ↔ ∃ m, (∃ x, (x, m) ∈ pK w sg g t p) ∧ lvE w sg g r m := by
  unfold lvE
  rw [gE_cons, gk_ne]
  constructor
  · rintro ⟨x, hx, h⟩
    exact ⟨x.2, ⟨x.1, hx⟩, h⟩
  · rintro ⟨m, ⟨x, hx⟩, h⟩
    exact ⟨(x, m), hx, h⟩
/-- the branch of a choice at a node -/
def nd_ (w : ro_w) (sg g : Nat) (ts : List gK) (p ch : Nat) : List gL := match ts with
  | [] => Bi w sg g (Br w sg g) ch p
  | t :: r => if hd_ w sg g t.2.1 ch p = true then (Bt w sg g (Br w sg g) (ts_ sg t.2.1 ch ++ r) (p + (iv_ sg t.2.1 ch).length)).map (lp_ ch ch (iv_ sg t.2.1 ch)) else []
def cl_ (ts : List gK) : List Nat := match ts with
  | [] => List.range' 1 18
  | t :: _ => fs_ t.1
/-- a node: the row before its end, or a unit, a pair, a third next -/
def nn_ (w : ro_w) (ts : List gK) (p : Nat) : Prop := match ts with
  | [] => p < w.1
  | t :: _ => t.1 = 1 ∨ t.1 = 2 ∨ t.1 = 3
theorem nd_all (hg : g ≤ 6) {ts : List gK} {p : Nat} (hk : kk_ ts) (hn : nn_ w ts p) : Bt w sg g (Br w sg g) ts p = (cl_ ts).flatMap (nd_ w sg g ts p) := by
  cases ts with
  | nil => exact Br_eq hg hn
  | cons t r =>
    rw [Bt_cons hk]
    unfold Bb
    rw [if_pos (show t.1 = 1 ∨ t.1 = 2 ∨ t.1 = 3 from hn)]
    rfl
/-- what is left at a node behind a choice -/
def rm_ (w : ro_w) (sg g : Nat) (ts : List gK) (p last : Nat) : List gL := ((cl_ ts).filter (fun ch => decide (last < ch))).flatMap (nd_ w sg g ts p)
theorem cl_sorted (ts : List gK) : List.Pairwise (· < ·) (cl_ ts) := by
  cases ts with
  | nil => show List.Pairwise (· < ·) (List.range' 1 18); decide
  | cons t r =>
    show List.Pairwise (· < ·) (fs_ t.1)
    unfold fs_
    split
    · decide
    · split <;> decide
theorem cl_pos {ts : List gK} {ch : Nat} (h : ch ∈ cl_ ts) : 1 ≤ ch ∧ ch ≤ 18 := by
  cases ts with
  | nil =>
    have h : ch ∈ List.range' 1 18 := h
    rw [List.mem_range'_1] at h
    omega
  | cons t r =>
    have h : ch ∈ fs_ t.1 := h
    unfold fs_ at h
    split at h
    · simp only [List.mem_cons, List.not_mem_nil, or_false] at h; omega
    · split at h <;> (simp only [List.mem_cons, List.not_mem_nil, or_false] at h; omega)
theorem rm_0 (hg : g ≤ 6) {ts : List gK} {p : Nat} (hk : kk_ ts) (hn : nn_ w ts p) : rm_ w sg g ts p 0 = Bt w sg g (Br w sg g) ts p := by
  rw [nd_all hg hk hn]
  unfold rm_
  rw [List.filter_eq_self.mpr (fun ch hch => by have := cl_pos hch; simp; omega)]
/-- the next choice ch: those between are empty -/
theorem rm_next {ts : List gK} {p last ch : Nat} (hc : ch ∈ cl_ ts) (hl : last < ch) (hz : ∀ c, last < c → c < ch → c ∈ cl_ ts → nd_ w sg g ts p c = []) : rm_ w sg g ts p last = nd_ w sg g ts p ch ++ rm_ w sg g ts p ch := by
  unfold rm_
  have key : ∀ l : List Nat, List.Pairwise (· < ·) l → ch ∈ l → (∀ c, last < c → c < ch → c ∈ l → nd_ w sg g ts p c = []) → (l.filter (fun c => decide (last < c))).flatMap (nd_ w sg g ts p) = nd_ w sg g ts p ch ++ (l.filter (fun c => decide (ch < c))).flatMap (nd_ w sg g ts p) := by
    intro l
    induction l with
    | nil => intro _ h; cases h
    | cons c l ih =>
      intro hs hm hzz
      rw [List.pairwise_cons] at hs
      rcases List.mem_cons.mp hm with e | e
      · subst e
        rw [List.filter_cons_of_pos (by simp; exact hl), List.flatMap_cons, List.filter_cons_of_neg (by simp)]
        congr 2
        apply List.filter_congr
        intro x hx
        have := hs.1 x hx
        simp
        omega
      · have hcc := hs.1 ch e
        have ih' := ih hs.2 e (fun x h1 h2 h3 => hzz x h1 h2 (List.mem_cons_of_mem _ h3))
        rw [List.filter_cons_of_neg (a := c) (p := fun c => decide (ch < c)) (by simp; omega)]
        by_cases hlc : last < c
        · rw [List.filter_cons_of_pos (by simp; exact hlc), List.flatMap_cons, hzz c hlc hcc List.mem_cons_self, List.nil_append]
          exact ih'
        · rw [List.filter_cons_of_neg (by simp; omega)]
          exact ih'
  exact key _ (cl_sorted ts) hc hz
theorem rm_none {ts : List gK} {p last : Nat} (hz : ∀ c, last < c → c ∈ cl_ ts → nd_ w sg g ts p c = []) : rm_ w sg g ts p last = [] := by
  unfold rm_
  apply fm_z
  intro c hc
  rw [List.mem_filter] at hc
  exact hz c (by simpa using hc.2) hc.1
/-- kind and form that a choice means at a node, and the tasks behind -/
def kf_ (w : ro_w) (g : Nat) (ts : List gK) (p ch : Nat) : Option (Nat × Nat) := match ts with
  | [] => (ic_ w g ch p).map (fun k => (k, if_ ch))
  | t :: _ => some (t.2.1, ch)
def rt_ (ts : List gK) : List gK := ts.tail
theorem nd_eq {ts : List gK} {p ch : Nat} : nd_ w sg g ts p ch = match kf_ w g ts p ch with
    | none => []
    | some kf => if hd_ w sg g kf.1 kf.2 p = true then (Bt w sg g (Br w sg g) (ts_ sg kf.1 kf.2 ++ rt_ ts) (p + (iv_ sg kf.1 kf.2).length)).map (lp_ ch kf.2 (iv_ sg kf.1 kf.2)) else [] := by
  cases ts with
  | nil =>
    show Bi w sg g (Br w sg g) ch p = _
    unfold Bi kf_ rt_
    cases ic_ w g ch p with
    | none => rfl
    | some k =>
      show (if hd_ w sg g k (if_ ch) p = true then _ else _) = (if hd_ w sg g k (if_ ch) p = true then _ else _)
      rw [show ts_ sg k (if_ ch) ++ List.tail [] = ts_ sg k (if_ ch) from List.append_nil _]
  | cons t r => rfl
theorem nd_ne (hk : rk_ w sg g) {ts : List gK} {p ch k f : Nat} (ht : kk_ ts) (hp : p ≤ w.1) (hkf : kf_ w g ts p ch = some (k, f)) (hk6 : k ≤ 6) : nd_ w sg g ts p ch ≠ [] ↔ ∃ m, enE w sg g k f p m ∧ lvE w sg g (rt_ ts) m := by
  rw [nd_eq, hkf]
  dsimp only
  rw [← lv_form, gk_F]
  have hrt : kk_ (rt_ ts) := by
    cases ts with
    | nil => exact ht
    | cons t r => exact kk_tl ht
  by_cases hh : hd_ w sg g k f p = true
  · rw [if_pos hh, if_pos hh]
    have hle : p + (iv_ sg k f).length ≤ w.1 := by
      rcases hd_len hh with h0 | ⟨-, h0⟩
      · rw [h0]; exact hp
      · exact h0
    have h1 := Bt_live hk (kk_app (ts_kk (w := w) (g := g) (p := p) hk6 hh) hrt) hle
    unfold lvE at h1
    constructor
    · intro h e
      rw [List.map_eq_nil_iff] at e
      exact h (by rw [List.map_eq_nil_iff]; exact Classical.not_not.mp (fun z => h1.mp z e))
    · intro h e
      rw [List.map_eq_nil_iff] at e
      exact h (by rw [List.map_eq_nil_iff]; exact Classical.not_not.mp (fun z => h1.mpr z e))
  · rw [if_neg hh, if_neg hh]
    exact ⟨fun h => absurd rfl h, fun h => absurd rfl h⟩
/-! what leaves no choice -/
def ss_ (w : ro_w) : Nat → List gK → Nat → List gK × Nat × gR × Nat
  | 0, ts, p => (ts, p, ([], []), 1)
  | n + 1, ts, p => match ts with
    | [] => ([], p, ([], []), 1)
    | t :: r => if t.1 = 4 ∨ t.1 = 7 then ((ss_ w n r (p + 1)).1, (ss_ w n r (p + 1)).2.1, gc ([], [t.2.2]) (ss_ w n r (p + 1)).2.2.1, (ss_ w n r (p + 1)).2.2.2)
      else if t.1 = 5 then ((ss_ w n r (p + 2)).1, (ss_ w n r (p + 2)).2.1, gc ([], [t.2.2, 0]) (ss_ w n r (p + 2)).2.2.1, (ss_ w n r (p + 2)).2.2.2)
      else if t.1 = 6 then (if ro_dot w p = true then ((ss_ w n (dvn (t :: r)).2 (p + 1)).1, (ss_ w n (dvn (t :: r)).2 (p + 1)).2.1, gc ([12], [0]) (ss_ w n (dvn (t :: r)).2 (p + 1)).2.2.1, (dvn (t :: r)).1 * (ss_ w n (dvn (t :: r)).2 (p + 1)).2.2.2) else ss_ w n (dvn (t :: r)).2 p)
      else (t :: r, p, ([], []), 1)
theorem ss_cons {w : ro_w} {n : Nat} {t : gK} {r : List gK} {p : Nat} : ss_ w (n + 1) (t :: r) p = if t.1 = 4 ∨ t.1 = 7 then ((ss_ w n r (p + 1)).1, (ss_ w n r (p + 1)).2.1, gc ([], [t.2.2]) (ss_ w n r (p + 1)).2.2.1, (ss_ w n r (p + 1)).2.2.2)
      else if t.1 = 5 then ((ss_ w n r (p + 2)).1, (ss_ w n r (p + 2)).2.1, gc ([], [t.2.2, 0]) (ss_ w n r (p + 2)).2.2.1, (ss_ w n r (p + 2)).2.2.2)
      else if t.1 = 6 then (if ro_dot w p = true then ((ss_ w n (dvn (t :: r)).2 (p + 1)).1, (ss_ w n (dvn (t :: r)).2 (p + 1)).2.1, gc ([12], [0]) (ss_ w n (dvn (t :: r)).2 (p + 1)).2.2.1, (dvn (t :: r)).1 * (ss_ w n (dvn (t :: r)).2 (p + 1)).2.2.2) else ss_ w n (dvn (t :: r)).2 p)
      else (t :: r, p, ([], []), 1) := rfl
def ls_ (q : gR × Nat) (x : gL) : gL := (x.1, gc q.1 x.2.1, q.2 * x.2.2)
theorem dvn_len : ∀ ts, (dvn ts).2.length ≤ ts.length
  | [] => Nat.le_refl _
  | t :: ts => by
    unfold dvn
    split
    · have := dvn_len ts
      show (dvn ts).2.length ≤ _
      rw [List.length_cons]; omega
    · exact Nat.le_refl _
theorem dvn_len1 {t : gK} {ts : List gK} (h : t.1 = 6) : (dvn (t :: ts)).2.length ≤ ts.length := by
  have e : (dvn (t :: ts)).2 = (dvn ts).2 := by
    show (if t.1 = 6 then _ else _ : Nat × List gK).2 = _
    rw [if_pos h]
  rw [e]
  exact dvn_len ts
theorem map_eq {L : List gL} {F G : gL → gL} (h : ∀ x, F x = G x) : L.map F = L.map G := List.map_congr_left (fun x _ => h x)
theorem ss_ok {row : Nat → List gL} : ∀ (n : Nat) (ts : List gK) (p : Nat), ts.length ≤ n → kk_ ts → (∀ t ∈ ts, 1 ≤ t.1 ∧ t.1 ≤ 7) → Bt w sg g row ts p ≠ [] →
    Bt w sg g row ts p = (Bt w sg g row (ss_ w n ts p).1 (ss_ w n ts p).2.1).map (ls_ (ss_ w n ts p).2.2) ∧ kk_ (ss_ w n ts p).1 ∧ (∀ t ∈ (ss_ w n ts p).1, t ∈ ts) ∧ ((ss_ w n ts p).1 = [] ∨ nn_ w (ss_ w n ts p).1 (ss_ w n ts p).2.1) ∧ p + (ss_ w n ts p).2.2.1.2.length = (ss_ w n ts p).2.1
  | 0, ts, p, hl, hk, hs, hB => by
    have e : ts = [] := List.eq_nil_of_length_eq_zero (by omega)
    subst e
    refine ⟨?_, hk, fun t ht => ht, Or.inl rfl, rfl⟩
    show row p = (row p).map (ls_ (([], []), 1))
    conv => lhs; rw [← List.map_id (row p)]
    apply map_eq
    intro x
    unfold ls_
    rw [nil_gc, Nat.one_mul]
    rfl
  | n + 1, [], p, hl, hk, hs, hB => by
    refine ⟨?_, hk, fun t ht => ht, Or.inl rfl, rfl⟩
    show row p = (row p).map (ls_ (([], []), 1))
    conv => lhs; rw [← List.map_id (row p)]
    apply map_eq
    intro x
    unfold ls_
    rw [nil_gc, Nat.one_mul]
    rfl
  | n + 1, t :: r, p, hl, hk, hs, hB => by
    have hlr : r.length ≤ n := by rw [List.length_cons] at hl; omega
    have hsr : ∀ t ∈ r, 1 ≤ t.1 ∧ t.1 ≤ 7 := fun x hx => hs x (List.mem_cons_of_mem _ hx)
    have hB2 := hB
    rw [Bt_cons hk] at hB2
    unfold Bb at hB2
    rw [ss_cons]
    by_cases c1 : t.1 = 1 ∨ t.1 = 2 ∨ t.1 = 3
    · rw [if_neg (by omega), if_neg (by omega), if_neg (by omega)]
      refine ⟨?_, hk, fun t ht => ht, Or.inr c1, rfl⟩
      conv => lhs; rw [← List.map_id (Bt w sg g row (t :: r) p)]
      apply map_eq
      intro x
      unfold ls_
      rw [nil_gc, Nat.one_mul]
      rfl
    rw [if_neg c1] at hB2
    have tk : ∀ (b : Bool) (vs : List Nat), Bb w sg g (Bt w sg g row) t r p = (if b = true then (Bt w sg g row r (p + vs.length)).map (lt_ vs) else []) → Bt w sg g row (t :: r) p = (Bt w sg g row (ss_ w n r (p + vs.length)).1 (ss_ w n r (p + vs.length)).2.1).map (ls_ (gc ([], vs) (ss_ w n r (p + vs.length)).2.2.1, (ss_ w n r (p + vs.length)).2.2.2)) ∧ kk_ (ss_ w n r (p + vs.length)).1 ∧ (∀ x ∈ (ss_ w n r (p + vs.length)).1, x ∈ t :: r) ∧ ((ss_ w n r (p + vs.length)).1 = [] ∨ nn_ w (ss_ w n r (p + vs.length)).1 (ss_ w n r (p + vs.length)).2.1) ∧ p + (vs ++ (ss_ w n r (p + vs.length)).2.2.1.2).length = (ss_ w n r (p + vs.length)).2.1 := by
      intro b vs e
      rw [Bt_cons hk, e] at hB
      rw [Bt_cons hk, e]
      cases b
      · exact absurd rfl hB
      · rw [if_pos rfl] at hB ⊢
        have hB' : Bt w sg g row r (p + vs.length) ≠ [] := fun z => hB (by rw [z]; rfl)
        obtain ⟨a1, a2, a3, a4, a5⟩ := ss_ok n r (p + vs.length) hlr (kk_tl hk) hsr hB'
        refine ⟨?_, a2, fun x hx => List.mem_cons_of_mem _ (a3 x hx), a4, by rw [List.length_append]; omega⟩
        rw [a1, List.map_map]
        apply map_eq
        intro x
        show lt_ vs (ls_ _ x) = ls_ _ x
        unfold lt_ ls_
        rw [gc_assoc]
    by_cases c4 : t.1 = 4
    · rw [if_pos (Or.inl c4)]
      exact tk (al_ w p t.2.1) [t.2.2] (by unfold Bb; rw [if_neg c1, if_pos c4]; rfl)
    by_cases c7 : t.1 = 7
    · rw [if_pos (Or.inr c7)]
      exact tk (li_ w p t.2.1) [t.2.2] (by unfold Bb; rw [if_neg c1, if_neg c4, if_pos c7]; rfl)
    rw [if_neg (by omega)]
    by_cases c5 : t.1 = 5
    · rw [if_pos c5]
      exact tk (do_ w p t.2.1) [t.2.2, 0] (by unfold Bb; rw [if_neg c1, if_neg c4, if_neg c7, if_pos c5]; rfl)
    rw [if_neg c5]
    have c6 : t.1 = 6 := by have := hs t List.mem_cons_self; omega
    rw [if_pos c6]
    rw [if_neg c4, if_neg c7, if_neg c5, if_pos c6] at hB2
    have hld : (dvn (t :: r)).2.length ≤ n := Nat.le_trans (dvn_len1 c6) hlr
    have hsd : ∀ x ∈ (dvn (t :: r)).2, 1 ≤ x.1 ∧ x.1 ≤ 7 := fun x hx => hs x (dvn_mem _ x hx)
    have e : Bt w sg g row (t :: r) p = if ro_dot w p = true then (Bt w sg g row (dvn (t :: r)).2 (p + 1)).map (lc_ (dvn (t :: r)).1) else Bt w sg g row (dvn (t :: r)).2 p := by
      rw [Bt_cons hk]
      unfold Bb
      rw [if_neg c1, if_neg c4, if_neg c7, if_neg c5, if_pos c6]
    rw [e]
    by_cases hd : ro_dot w p = true
    · rw [if_pos hd] at hB2 ⊢
      rw [if_pos hd]
      have hB' : Bt w sg g row (dvn (t :: r)).2 (p + 1) ≠ [] := fun z => hB2 (by rw [z]; rfl)
      obtain ⟨a1, a2, a3, a4, a5⟩ := ss_ok n (dvn (t :: r)).2 (p + 1) hld (kk_dvn hk) hsd hB'
      refine ⟨?_, a2, fun x hx => dvn_mem _ x (a3 x hx), a4, ?_⟩
      · rw [a1, List.map_map]
        apply map_eq
        intro x
        show lc_ _ (ls_ _ x) = ls_ _ x
        unfold lc_ ls_
        rw [gc_assoc, Nat.mul_assoc]
      · show p + ([0] ++ (ss_ w n (dvn (t :: r)).2 (p + 1)).2.2.1.2).length = (ss_ w n (dvn (t :: r)).2 (p + 1)).2.1
        rw [List.length_append]
        show p + (1 + (ss_ w n (dvn (t :: r)).2 (p + 1)).2.2.1.2.length) = _
        omega
    · rw [if_neg hd] at hB2 ⊢
      rw [if_neg hd]
      obtain ⟨a1, a2, a3, a4, a5⟩ := ss_ok n (dvn (t :: r)).2 p hld (kk_dvn hk) hsd hB2
      exact ⟨a1, a2, fun x hx => dvn_mem _ x (a3 x hx), a4, a5⟩
end DFS
