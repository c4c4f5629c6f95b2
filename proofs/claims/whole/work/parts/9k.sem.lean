/-! going through the readings: one turn -/
section TURN
variable {w : ro_w} {sg g : Nat}
theorem ss_wf : ∀ (n : Nat) (ts : List gK) (p : Nat), wf_ g ts → wf_ g (ss_ w n ts p).1
  | 0, ts, p, h => h
  | n + 1, [], p, h => h
  | n + 1, t :: r, p, h => by
    rw [ss_cons]
    by_cases c4 : t.1 = 4 ∨ t.1 = 7
    · rw [if_pos c4]; exact ss_wf n r (p + 1) (wf_tl h)
    rw [if_neg c4]
    by_cases c5 : t.1 = 5
    · rw [if_pos c5]; exact ss_wf n r (p + 2) (wf_tl h)
    rw [if_neg c5]
    by_cases c6 : t.1 = 6
    · rw [if_pos c6]
      by_cases hd : ro_dot w p = true
      · rw [if_pos hd]; exact ss_wf n _ (p + 1) (wf_dvn h)
      · rw [if_neg hd]; exact ss_wf n _ p (wf_dvn h)
    rw [if_neg c6]
    exact h
theorem cn1_le (t : gK) : cn1 t ≤ 1 := by unfold cn1; split <;> omega
/-- tasks that are done have used up as many places -/
theorem ss_cn : ∀ (n : Nat) (ts : List gK) (p : Nat), p + cn_ ts ≤ (ss_ w n ts p).2.1 + cn_ (ss_ w n ts p).1
  | 0, ts, p => Nat.le_refl _
  | n + 1, [], p => Nat.le_refl _
  | n + 1, t :: r, p => by
    have h1 := cn1_le t
    rw [ss_cons, cn_cons]
    by_cases c4 : t.1 = 4 ∨ t.1 = 7
    · rw [if_pos c4]
      have := ss_cn n r (p + 1)
      show _ ≤ (ss_ w n r (p + 1)).2.1 + cn_ (ss_ w n r (p + 1)).1
      omega
    rw [if_neg c4]
    by_cases c5 : t.1 = 5
    · rw [if_pos c5]
      have := ss_cn n r (p + 2)
      show _ ≤ (ss_ w n r (p + 2)).2.1 + cn_ (ss_ w n r (p + 2)).1
      omega
    rw [if_neg c5]
    by_cases c6 : t.1 = 6
    · rw [if_pos c6]
      have e := (cs_dvn (t :: r)).2.1
      rw [cn_cons] at e
      by_cases hd : ro_dot w p = true
      · rw [if_pos hd]
        have := ss_cn n (dvn (t :: r)).2 (p + 1)
        show _ ≤ (ss_ w n (dvn (t :: r)).2 (p + 1)).2.1 + cn_ (ss_ w n (dvn (t :: r)).2 (p + 1)).1
        omega
      · rw [if_neg hd]
        have := ss_cn n (dvn (t :: r)).2 p
        omega
    rw [if_neg c6]
    show _ ≤ p + cn_ (t :: r)
    rw [cn_cons]
    omega
theorem nd2_step {p : Nat} : nd2 w p ≤ nd2 w (p + 1) := nd2_mono (d := 1)
theorem ss_cp : ∀ (n : Nat) (ts : List gK) (p c : Nat), wf_ g ts → c ≤ 4 ^ nd2 w p → c * (ss_ w n ts p).2.2.2 ≤ 4 ^ nd2 w (ss_ w n ts p).2.1
  | 0, ts, p, c, _, h => by show c * 1 ≤ _; rw [Nat.mul_one]; exact h
  | n + 1, [], p, c, _, h => by show c * 1 ≤ _; rw [Nat.mul_one]; exact h
  | n + 1, t :: r, p, c, hw, h => by
    have up : ∀ d, c ≤ 4 ^ nd2 w (p + d) := fun d => Nat.le_trans h (Nat.pow_le_pow_right (by decide) nd2_mono)
    rw [ss_cons]
    by_cases c4 : t.1 = 4 ∨ t.1 = 7
    · rw [if_pos c4]; exact ss_cp n r (p + 1) c (wf_tl hw) (up 1)
    rw [if_neg c4]
    by_cases c5 : t.1 = 5
    · rw [if_pos c5]; exact ss_cp n r (p + 2) c (wf_tl hw) (up 2)
    rw [if_neg c5]
    by_cases c6 : t.1 = 6
    · rw [if_pos c6]
      by_cases hd : ro_dot w p = true
      · rw [if_pos hd]
        have h4 := dvn_le4 hw
        have e : nd2 w (p + 1) = nd2 w p + 1 := by show nd2 w p + (if ro_dot w p = true then 1 else 0) = _; rw [if_pos hd]
        have := ss_cp n (dvn (t :: r)).2 (p + 1) (c * (dvn (t :: r)).1) (wf_dvn hw) (by rw [e, Nat.pow_succ]; exact Nat.mul_le_mul h h4)
        rw [Nat.mul_assoc] at this
        exact this
      · rw [if_neg hd]; exact ss_cp n _ p c (wf_dvn hw) h
    rw [if_neg c6]
    show c * 1 ≤ _
    rw [Nat.mul_one]
    exact h
/-- a frame: tasks, forms, values, copies, the choice before, how many tasks are made -/
abbrev fR : Type := List gK × List Nat × List Nat × Nat × Nat × Nat
def pf_ (cs : List Nat) (φ : fR) (x : gL) : gL := (cs ++ x.1, gc (φ.2.1, φ.2.2.1) x.2.1, φ.2.2.2.1 * x.2.2)
def cso (r : List fR) : List Nat := (r.map (fun φ => φ.2.2.2.2.1)).reverse
theorem cso_cons {φ : fR} {r : List fR} : cso (φ :: r) = cso r ++ [φ.2.2.2.2.1] := by unfold cso; rw [List.map_cons, List.reverse_cons]
theorem cso_len {r : List fR} : (cso r).length = r.length := by unfold cso; rw [List.length_reverse, List.length_map]
/-- what is still to be found -/
def rem_ (w : ro_w) (sg g : Nat) : List fR → List gL
  | [] => []
  | φ :: r => (rm_ w sg g φ.1 φ.2.2.1.length φ.2.2.2.2.1).map (pf_ (cso r) φ) ++ rem_ w sg g r
/-- a frame is well made, d choices before it -/
def fw_ (w : ro_w) (sg g d : Nat) (φ : fR) : Prop := wf_ g φ.1 ∧ nn_ w φ.1 φ.2.2.1.length ∧ φ.2.2.1.length < w.1 ∧ (φ.1 = [] → ro_dot w φ.2.2.1.length = false) ∧ φ.2.2.2.2.1 ≤ 18 ∧ φ.2.2.2.2.2 ≤ 1 + 2 * d + φ.2.2.1.length + cn_ φ.1 ∧ φ.2.2.2.1 ≤ 4 ^ nd2 w φ.2.2.1.length
/-- all that a choice needs and gives, before and after what leaves no choice -/
theorem turn_c (hk : rk_ w sg g) {φ : fR} {r : List fR} {ch : Nat} (hw : fw_ w sg g r.length φ) (hch : ch ∈ cl_ φ.1) (hn : nd_ w sg g φ.1 φ.2.2.1.length ch ≠ []) (hB : ∀ x ∈ (nd_ w sg g φ.1 φ.2.2.1.length ch).map (pf_ (cso r) φ), x ∈ Br w sg g 0) :
    ∃ k f, kf_ w g φ.1 φ.2.2.1.length ch = some (k, f) ∧ hd_ w sg g k f φ.2.2.1.length = true ∧ k ≤ 6 ∧ (g ≤ k ∨ f = 1 ∨ f = 2 ∨ 15 ≤ f) ∧ wf_ g (ts_ sg k f ++ rt_ φ.1) ∧ φ.2.2.1.length + (iv_ sg k f).length ≤ w.1 ∧ φ.2.1.length < 48 ∧ φ.2.2.2.2.2 + (ts_ sg k f).length ≤ 121 ∧ r.length + 1 ≤ 48 ∧ φ.2.2.2.2.2 + (ts_ sg k f).length ≤ 1 + 2 * (r.length + 1) + (φ.2.2.1.length + (iv_ sg k f).length) + cn_ (ts_ sg k f ++ rt_ φ.1) ∧ lr_ w sg g (ts_ sg k f ++ rt_ φ.1) (φ.2.2.1.length + (iv_ sg k f).length) (φ.2.1.length + 1) ∧ nd_ w sg g φ.1 φ.2.2.1.length ch = (Bt w sg g (Br w sg g) (ts_ sg k f ++ rt_ φ.1) (φ.2.2.1.length + (iv_ sg k f).length)).map (lp_ ch f (iv_ sg k f)) := by
  obtain ⟨ts, fs, vs, c, last, m⟩ := φ
  obtain ⟨h1, h2, h3, h4, h5, h6, h7⟩ := hw
  dsimp only at *
  have hg : g ≤ 6 := by have := hk.2.1; omega
  cases hkf : kf_ w g ts vs.length ch with
  | none => exact absurd (nd_none hkf) hn
  | some kf =>
    obtain ⟨k, f⟩ := kf
    have hnd := nd_eq (w := w) (sg := sg) (g := g) (ts := ts) (p := vs.length) (ch := ch)
    rw [hkf] at hnd
    dsimp only at hnd
    by_cases hh : hd_ w sg g k f vs.length = true
    · rw [if_pos hh] at hnd
      have hk6 : k ≤ 6 := by
        cases ts with
        | nil => have := (kf_al (sg := sg) hkf (cl_pos hch)).1; omega
        | cons t r' =>
          have e0 := Option.some.inj (show some (t.2.1, ch) = some (k, f) from hkf)
          have e1 : t.2.1 = k := congrArg Prod.fst e0
          have := (h1.1 t List.mem_cons_self).2.1
          omega
      have hle : vs.length + (iv_ sg k f).length ≤ w.1 := by
        rcases hd_len hh with h0 | ⟨-, h0⟩
        · rw [h0]; exact Nat.le_of_lt h3
        · exact h0
      have hkt : kk_ (ts_ sg k f) := ts_kk hk6 hh
      have hwr : wf_ g (rt_ ts) := by
        cases ts with
        | nil => exact h1
        | cons t r' => exact wf_tl h1
      have hen := (nd_ne hk (wf_kk h1) (by omega) hkf hk6).mp hn
      have hgf : g ≤ k ∨ f = 1 ∨ f = 2 ∨ 15 ≤ f := by
        cases ts with
        | nil =>
          obtain ⟨a1, a2, a3⟩ := kf_al (sg := sg) hkf (cl_pos hch)
          rcases a3 with (a3 | a3) | a3
          · unfold un_f at a3
            by_cases z : k < g
            · rw [if_pos z] at a3
              simp only [List.mem_cons, List.not_mem_nil, or_false] at a3
              omega
            · exact Or.inl (by omega)
          · unfold pa_f at a3
            by_cases z : k < g
            · rw [if_pos z] at a3
              simp only [List.mem_cons, List.not_mem_nil, or_false] at a3
              omega
            · exact Or.inl (by omega)
          · obtain ⟨mm, b1, -⟩ := hen
            exact absurd b1 (a3 mm)
        | cons t r' =>
          have e0 := Option.some.inj (show some (t.2.1, ch) = some (k, f) from hkf)
          have e1 : t.2.1 = k := congrArg Prod.fst e0
          have e2 : ch = f := congrArg Prod.snd e0
          have hq := h1.1 t List.mem_cons_self
          have h2 : t.1 = 1 ∨ t.1 = 2 ∨ t.1 = 3 := h2
          rcases h2 with z | z | z
          · exact Or.inl (by have := hq.2.2.1 (by omega); omega)
          · exact Or.inl (by have := hq.2.2.1 (by omega); omega)
          · have hch : ch ∈ fs_ t.1 := hch
            rw [z] at hch
            have hch : ch ∈ ([16, 17] : List Nat) := hch
            simp only [List.mem_cons, List.not_mem_nil, or_false] at hch
            omega
      have hwt : wf_ g (ts_ sg k f ++ rt_ ts) := by
        refine wf_ts hwr hkt hk6 hgf ?_
        cases ts with
        | nil =>
          by_cases z : 15 ≤ f
          · exact Or.inr z
          · exact Or.inl ⟨by omega, db_nil⟩
        | cons t r' =>
          have e0 := Option.some.inj (show some (t.2.1, ch) = some (k, f) from hkf)
          have e1 : t.2.1 = k := congrArg Prod.fst e0
          have e2 : ch = f := congrArg Prod.snd e0
          have h2 : t.1 = 1 ∨ t.1 = 2 ∨ t.1 = 3 := h2
          by_cases z : 15 ≤ f
          · exact Or.inr z
          · refine Or.inl ⟨by omega, ?_⟩
            rw [← e1]
            apply wf_db h1
            rcases h2 with y | y | y
            · exact Or.inl y
            · exact Or.inr (Or.inl y)
            · exfalso
              have hch : ch ∈ fs_ t.1 := hch
              rw [y] at hch
              have hch : ch ∈ ([16, 17] : List Nat) := hch
              simp only [List.mem_cons, List.not_mem_nil, or_false] at hch
              omega
      -- a leaf below
      have hlv : ∃ x, x ∈ Bt w sg g (Br w sg g) (ts_ sg k f ++ rt_ ts) (vs.length + (iv_ sg k f).length) := by
        cases hz : Bt w sg g (Br w sg g) (ts_ sg k f ++ rt_ ts) (vs.length + (iv_ sg k f).length) with
        | nil => rw [hz] at hnd; exact absurd hnd hn
        | cons x l => exact ⟨x, List.mem_cons_self⟩
      obtain ⟨x, hx⟩ := hlv
      have hxB : pf_ (cso r) (ts, fs, vs, c, last, m) (lp_ ch f (iv_ sg k f) x) ∈ Br w sg g 0 := hB _ (List.mem_map.mpr ⟨_, by rw [hnd]; exact List.mem_map.mpr ⟨x, hx, rfl⟩, rfl⟩)
      have o1 := Br_ok2' (sg := sg) hg 0 (Nat.zero_le _) _ hxB
      have o2 := Bt_ok2 (Br_ok2' (sg := sg) hg) _ _ (wf_kk hwt) hle x hx
      have o3 := Bt_ok1 (Br_okk (sg := sg) hg) _ _ (wf_kk hwt) hle x hx
      have o4 := Br_okk (sg := sg) hg 0 (Nat.zero_le _) _ hxB
      have h24 := hk.1
      have l1 : fs.length + (1 + x.2.1.1.length) ≤ 2 * w.1 := by
        have a := o1.2.2.1
        have b := o4.1
        have a : (fs ++ (f :: x.2.1.1)).length + 0 ≤ 2 * (vs ++ (iv_ sg k f ++ x.2.1.2)).length := a
        have b : (vs ++ (iv_ sg k f ++ x.2.1.2)).length + 0 = w.1 := b
        rw [List.length_append, List.length_cons] at a
        omega
      have l2 : r.length + 1 ≤ 48 := by
        have a := o1.2.2.2
        have a : (cso r ++ (ch :: x.1)).length ≤ (fs ++ (f :: x.2.1.1)).length := a
        rw [List.length_append, List.length_cons, cso_len, List.length_append, List.length_cons] at a
        omega
      have l3 : cn_ (ts_ sg k f ++ rt_ ts) + (vs.length + (iv_ sg k f).length) ≤ w.1 := by
        have a := o2.2.1
        have b := o3.1
        omega
      have l4 := len_ts (sg := sg) (k := k) (f := f)
      have l5 : cn_ ts ≤ 1 + cn_ (rt_ ts) := by
        cases ts with
        | nil => exact Nat.zero_le _
        | cons t r' => rw [cn_cons]; have := cn1_le t; show _ ≤ 1 + cn_ r'; omega
      have l6 : m + (ts_ sg k f).length ≤ 1 + 2 * (r.length + 1) + (vs.length + (iv_ sg k f).length) + cn_ (ts_ sg k f ++ rt_ ts) := by
        rw [cn_app]
        omega
      exact ⟨k, f, rfl, hh, hk6, hgf, hwt, hle, by omega, by omega, l2, l6, ⟨x, hx, by omega⟩, hnd⟩
    · rw [if_neg hh] at hnd; exact absurd hnd hn
end TURN
