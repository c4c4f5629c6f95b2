/-! items and whole readings as lists; what the reference holds for reading q is element q -/
def gG (w : ro_w) (sg k a b : Nat) : List gR :=
  (if b = a + 1 then (if ro_rest w a k = true then [([2], [fl_ sg k])] else if ro_plain w a k = true then [([1], [fl_ sg k])] else []) else []) ++ ((if b = a + 2 ∧ ro_plain w a k = true ∧ ro_dot w (a + 1) = true then [([18], [fl_ sg k + fl_ sg k / 2, 0])] else []) ++ (sp_thirds w k a b).flatMap (gQ sg (fun _ _ => []) k a b))
def gGs (w : ro_w) (sg a b : Nat) : Nat → Nat → List gR
  | 0, _ => []
  | f + 1, k => gG w sg k a b ++ gGs w sg a b f (k + 1)
def gI (w : ro_w) (sg g : Nat) (T : Nat → Nat) (a b : Nat) : List gR := gU w sg T g a b ++ (gP w sg T g a b ++ gGs w sg a b g 0)
/-- readings of what is behind place a; f: at least as many as places left -/
def gDf (w : ro_w) (sg g : Nat) (T : Nat → Nat) : Nat → Nat → List gR
  | 0, _ => [([], [])]
  | f + 1, a => if w.1 ≤ a then [([], [])] else (List.range' (a + 1) (w.1 - a)).flatMap (fun b => gx (gI w sg g T a b) (gDf w sg g T f b))
def gD (w : ro_w) (sg g : Nat) (T : Nat → Nat) (a : Nat) : List gR := gDf w sg g T (w.1 - a) a
theorem fm_congr {α β : Type} {f h : α → List β} : ∀ {l : List α}, (∀ x ∈ l, f x = h x) → l.flatMap f = l.flatMap h
  | [], _ => rfl
  | x :: l, e => by rw [List.flatMap_cons, List.flatMap_cons, e x List.mem_cons_self, fm_congr (fun y hy => e y (List.mem_cons_of_mem _ hy))]
section GIS
variable {w : ro_w} {sg g : Nat} {T I : Nat → Nat}
theorem gDf_ir : ∀ (f a : Nat), w.1 - a ≤ f → gDf w sg g T f a = gD w sg g T a
  | 0, a, h => by unfold gD; rw [show w.1 - a = 0 from by omega]
  | f + 1, a, h => by
    by_cases ha : w.1 ≤ a
    · unfold gD
      rw [show w.1 - a = 0 from by omega]
      show (if w.1 ≤ a then _ else _) = _
      rw [if_pos ha]
      rfl
    · unfold gD
      rw [show w.1 - a = (w.1 - a - 1) + 1 from by omega]
      show (if w.1 ≤ a then _ else _) = (if w.1 ≤ a then _ else _)
      rw [if_neg ha, if_neg ha]
      apply fm_congr
      intro b hb
      rw [List.mem_range'_1] at hb
      rw [gDf_ir f b (by omega)]
      by_cases hb2 : w.1 - b ≤ w.1 - a - 1
      · rw [gDf_ir (w.1 - a - 1) b hb2]
      · omega
theorem gD_end {a : Nat} (ha : w.1 ≤ a) : gD w sg g T a = [([], [])] := by unfold gD; rw [show w.1 - a = 0 from by omega]; rfl
theorem gD_eq {a : Nat} (ha : a < w.1) : gD w sg g T a = (List.range' (a + 1) (w.1 - a)).flatMap (fun b => gx (gI w sg g T a b) (gD w sg g T b)) := by
  conv => lhs; unfold gD
  rw [show w.1 - a = (w.1 - a - 1) + 1 from by omega]
  show (if w.1 ≤ a then _ else _) = _
  rw [if_neg (by omega)]
  rw [show (w.1 - a - 1) + 1 = w.1 - a from by omega]
  apply fm_congr
  intro b hb
  rw [List.mem_range'_1] at hb
  rw [gDf_ir (w.1 - a - 1) b (by omega)]
theorem gth_cq {k a b : Nat} : ∀ e ∈ sp_thirds w k a b, cq e.2.2.2.2 (gQ sg (fun _ _ => []) k a b e).length := by
  intro e he
  obtain ⟨m, p, -, -, -, rfl⟩ := th_inv he
  have h1 : ro_third w k a m * ro_third w k m p * ro_third w k p b ≤ 1 := by
    have := Nat.mul_le_mul (Nat.mul_le_mul (ro_third_le (w := w) (k := k) (a := a) (b := m)) (ro_third_le (w := w) (k := k) (a := m) (b := p))) (ro_third_le (w := w) (k := k) (a := p) (b := b))
    omega
  show cq (ro_third w k a m * ro_third w k m p * ro_third w k p b) (if ro_third w k a m * ro_third w k m p * ro_third w k p b = 0 then ([] : List gR) else [gT sg k a b m p]).length
  by_cases h0 : ro_third w k a m * ro_third w k m p * ro_third w k p b = 0
  · rw [if_pos h0, h0]; exact cq_rf 0
  · rw [if_neg h0, show ro_third w k a m * ro_third w k m p * ro_third w k p b = 1 from by omega]; exact cq_rf 1
theorem pr_rest {a k : Nat} (h : ro_rest w a k = true) : ro_plain w a k = false := by
  unfold ro_rest at h
  unfold ro_plain
  simp at h
  simp [h.2.1]
theorem gG_cq {k a b : Nat} (hb : b ≤ 24) : cq (ct_gr w k a b) (gG w sg k a b).length := by
  unfold ct_gr gG
  rw [List.length_append, List.length_append, show ct_th w k a b + (if b = a + 1 then Bool.toNat (ro_plain w a k || ro_rest w a k) else 0) + (if b = a + 2 ∧ ro_plain w a k = true ∧ ro_dot w (a + 1) = true then 1 else 0) = (if b = a + 1 then Bool.toNat (ro_plain w a k || ro_rest w a k) else 0) + ((if b = a + 2 ∧ ro_plain w a k = true ∧ ro_dot w (a + 1) = true then 1 else 0) + ct_th w k a b) from by omega]
  refine cq_add ?_ (cq_add ?_ (sm_cq _ gth_cq))
  · by_cases h1 : b = a + 1
    · rw [if_pos h1, if_pos h1]
      by_cases h2 : ro_rest w a k = true
      · rw [if_pos h2, h2]; simp; exact cq_rf 1
      · rw [if_neg h2]
        by_cases h3 : ro_plain w a k = true
        · rw [if_pos h3, h3]; exact cq_rf 1
        · rw [if_neg h3]
          simp at h2 h3
          rw [h2, h3]; exact cq_rf 0
    · rw [if_neg h1, if_neg h1]; exact cq_rf 0
  · split
    · exact cq_rf 1
    · exact cq_rf 0
theorem gGs_cq {a b : Nat} (hb : b ≤ 24) : ∀ f k, cq (ct_gs w a b f k) (gGs w sg a b f k).length
  | 0, _ => cq_rf 0
  | f + 1, k => by
    show cq (ct_gr w k a b + ct_gs w a b f (k + 1)) (gG w sg k a b ++ gGs w sg a b f (k + 1)).length
    rw [List.length_append]
    exact cq_add (gG_cq hb) (gGs_cq hb f (k + 1))
theorem gI_cq (hc : tc_ w sg g T I) {a b : Nat} (hb : b ≤ w.1) : cq (ct_it w g T a b) (gI w sg g T a b).length := by
  have hw := hc.2.2.2.1
  unfold ct_it gI
  rw [List.length_append, List.length_append, Nat.add_assoc]
  exact cq_cap (cq_add (lq_k hc g a b hb).1 (cq_add (lq_k hc g a b hb).2 (gGs_cq (by omega) g 0)))
theorem iw_cq (hc : tc_ w sg g T I) {a : Nat} (ih : ∀ b, a < b → b ≤ w.1 → cq (I b) (gD w sg g T b).length) : ∀ f b, a < b → b + f = w.1 + 1 → cq (iw_s w g T I a f b) ((List.range' b f).flatMap (fun b => gx (gI w sg g T a b) (gD w sg g T b))).length
  | 0, _, _, _ => cq_rf 0
  | f + 1, b, h1, h2 => by
    show cq (ct_it w g T a b * I b + iw_s w g T I a f (b + 1)) _
    rw [List.range'_succ, List.flatMap_cons, List.length_append, gx_len]
    exact cq_add (cq_mul (gI_cq hc (by omega)) (ih b h1 (by omega))) (iw_cq hc ih f (b + 1) (by omega) (by omega))
/-- how many readings there are behind a place, as far as 3000 -/
theorem gD_cq (hc : tc_ w sg g T I) : ∀ n a, a + n = w.1 → cq (I a) (gD w sg g T a).length
  | n, a, h => by
    induction n using Nat.strongRecOn generalizing a with
    | _ n ih =>
      by_cases ha : a < w.1
      · rw [gD_eq ha]
        have h3 := hc.2.2.1.2 a (Nat.zero_le _) ha
        unfold iw_d at h3
        rw [h3]
        exact cq_cap (iw_cq hc (fun b h1 h2 => ih (w.1 - b) (by omega) b (by omega)) (w.1 - a) (a + 1) (by omega) (by omega))
      · have e : a = w.1 := by omega
        subst e
        rw [gD_end (Nat.le_refl _), hc.2.2.1.1]
        exact cq_rf 1
theorem gk_get {a b : Nat} (hb : b ≤ 24) : ∀ f k l, l < 3000 → l < ct_gs w a b f k → (gGs w sg a b f k)[l]? = (gG w sg (gk_ w a b f k l).1 a b)[(gk_ w a b f k l).2]?
  | 0, k, l, _, h => by unfold ct_gs at h; omega
  | f + 1, k, l, h3, h => by
    have hq := gG_cq (w := w) (sg := sg) (k := k) (a := a) hb
    have h2 : l < ct_gr w k a b + ct_gs w a b f (k + 1) := h
    show (gG w sg k a b ++ gGs w sg a b f (k + 1))[l]? = _
    unfold gk_
    by_cases h1 : ct_gr w k a b ≤ l
    · have e : ct_gr w k a b = (gG w sg k a b).length := by unfold cq at hq; omega
      rw [if_pos h1, List.getElem?_append_right (by omega), ← e]
      exact gk_get hb f (k + 1) _ (by omega) (by omega)
    · rw [if_neg h1, List.getElem?_append_left ((cq_lt hq h3).mp (by omega))]
theorem ik_get (hc : tc_ w sg g T I) {a : Nat} : ∀ f b l, a < b → b + f = w.1 + 1 → l < 3000 → l < iw_s w g T I a f b → ((List.range' b f).flatMap (fun b => gx (gI w sg g T a b) (gD w sg g T b)))[l]? = (gx (gI w sg g T a (ik_ w g T I a f b l).1) (gD w sg g T (ik_ w g T I a f b l).1))[(ik_ w g T I a f b l).2]?
  | 0, b, l, _, _, _, h => by unfold iw_s at h; omega
  | f + 1, b, l, h1, h2, h3, h => by
    have hq := cq_mul (gI_cq hc (a := a) (b := b) (by omega)) (gD_cq hc (w.1 - b) b (by omega))
    rw [← gx_len] at hq
    have h4 : l < ct_it w g T a b * I b + iw_s w g T I a f (b + 1) := h
    rw [List.range'_succ, List.flatMap_cons]
    unfold ik_
    by_cases h5 : ct_it w g T a b * I b ≤ l
    · have e : ct_it w g T a b * I b = (gx (gI w sg g T a b) (gD w sg g T b)).length := by unfold cq at hq; omega
      rw [if_pos h5, List.getElem?_append_right (by omega), ← e]
      exact ik_get hc f (b + 1) _ (by omega) (by omega) (by omega) (by omega)
    · rw [if_neg h5, List.getElem?_append_left ((cq_lt hq h3).mp (by omega))]
theorem g_run {k a b r : Nat} (hb : b ≤ 24) (hab : a < b) (hr : r < ct_gr w k a b) (hr3 : r < 3000) : ∃ x, (gG w sg k a b)[r]? = some x ∧ ru w sg g T I (op_g w sg k a b r) x a b (3 * (b - a) - 1) := by
  have hcq := gG_cq (w := w) (sg := sg) (k := k) (a := a) hb
  have hth : b ≤ a + 2 → sp_thirds w k a b = [] := by
    intro h
    apply List.eq_nil_iff_forall_not_mem.mpr
    intro e he
    obtain ⟨m, p, h1, h2, h3, -⟩ := th_inv he
    omega
  have hlen := (cq_lt hcq hr3).mp hr
  by_cases h1 : b = a + 1
  · have e1 : gG w sg k a b = (if ro_rest w a k = true then [([2], [fl_ sg k])] else if ro_plain w a k = true then [([1], [fl_ sg k])] else []) := by
      unfold gG
      rw [if_pos h1, if_neg (c := b = a + 2 ∧ ro_plain w a k = true ∧ ro_dot w (a + 1) = true) (fun z => by have := z.1; omega), hth (by omega)]
      simp only [List.flatMap_nil, List.append_nil, List.nil_append]
    rw [e1] at hlen ⊢
    have hv : ∀ fm, ru w sg g T I (fun P => op_l a (fl_ sg k) (op_t fm P)) ([fm], [fl_ sg k]) a b (3 * (b - a) - 1) := fun fm =>
      ru_eq (ru_mono (ru_tell fm (ru_front (ns := []) (y := ([], [])) (V' := fun V => rm_up V a (fl_ sg k)) (vs := [fl_ sg k]) (b := b) (fun V _ => sv_one) (by rw [h1]; exact rn_nil))) (by omega)) (fun rest F V => rfl)
    by_cases h2 : ro_rest w a k = true
    · rw [if_pos h2] at hlen ⊢
      have e : r = 0 := by simp at hlen; exact hlen
      subst e
      refine ⟨_, rfl, ru_eq (hv 2) (fun rest F V => ?_)⟩
      unfold op_g
      rw [if_pos h1, if_pos h2]
    · rw [if_neg h2] at hlen ⊢
      by_cases h3 : ro_plain w a k = true
      · rw [if_pos h3] at hlen ⊢
        have e : r = 0 := by simp at hlen; exact hlen
        subst e
        refine ⟨_, rfl, ru_eq (hv 1) (fun rest F V => ?_)⟩
        unfold op_g
        rw [if_pos h1, if_neg h2]
      · rw [if_neg h3] at hlen
        simp at hlen
  · by_cases h2 : b = a + 2 ∧ ro_plain w a k = true
    · have e1 : gG w sg k a b = if ro_dot w (a + 1) = true then [([18], [fl_ sg k + fl_ sg k / 2, 0])] else [] := by
        unfold gG
        rw [if_neg h1, hth (by omega)]
        by_cases hd : ro_dot w (a + 1) = true
        · rw [if_pos hd, if_pos ⟨h2.1, h2.2, hd⟩]; rfl
        · rw [if_neg hd, if_neg (fun z => hd z.2.2)]; rfl
      rw [e1] at hlen ⊢
      by_cases hd : ro_dot w (a + 1) = true
      · rw [if_pos hd] at hlen ⊢
        have e : r = 0 := by simp at hlen; exact hlen
        subst e
        refine ⟨_, rfl, ru_eq (ru_mono (ru_tell 18 (ru_front (ns := []) (y := ([], [])) (V' := fun V => rm_up V a (fl_ sg k + fl_ sg k / 2)) (vs := [fl_ sg k + fl_ sg k / 2, 0]) (a := a) (b := b) (fun V hz => sv_two (hz _ (by omega) (by omega))) (by rw [h2.1]; exact rn_nil))) (by omega)) (fun rest F V => ?_)⟩
        unfold op_g
        rw [if_neg h1, if_pos h2]
        rfl
      · rw [if_neg hd] at hlen
        simp at hlen
    · obtain ⟨e, q, hp⟩ := gr_pick hr h1 h2
      obtain ⟨p1, p2, p3⟩ := pk_mem _ _ _ _ hp
      have e1 : gG w sg k a b = (sp_thirds w k a b).flatMap (gQ sg (fun _ _ => []) k a b) := by
        unfold gG
        rw [if_neg h1, if_neg (by rintro ⟨z1, z2, -⟩; exact h2 ⟨z1, z2⟩)]
        rfl
      rw [e1, pk_get _ _ _ _ gth_cq hr3 hp]
      obtain ⟨m, p, z1, z2, z3, rfl⟩ := th_inv p1
      obtain ⟨e0, e1, e2, e3⟩ := th_c (show q < ro_third w k a m * ro_third w k m p * ro_third w k p b from p2)
      refine ⟨gT sg k a b m p, ?_, ru_eq (ru_mono (rn_T (k := k) e1 e2 e3) (by omega)) (fun rest F V => ?_)⟩
      · show (if ro_third w k a m * ro_third w k m p * ro_third w k p b = 0 then ([] : List gR) else [gT sg k a b m p])[q]? = _
        rw [if_neg (by have : q < ro_third w k a m * ro_third w k m p * ro_third w k p b := p2; omega), e0]
        rfl
      · unfold op_g
        rw [if_neg h1, if_neg h2, hp]
        rfl
theorem i_run (hc : tc_ w sg g T I) {a b r : Nat} (hab : a < b) (hb : b ≤ w.1) (hr3 : r < 3000) (hr : r < tb_w T 0 g a b + tb_w T 1 g a b + ct_gs w a b g 0) : ∃ x, (gI w sg g T a b)[r]? = some x ∧ ru w sg g T I (op_i w sg g T a b r) x a b (3 * (b - a) - 1) := by
  have hw := hc.2.2.2.1
  have l0 := (lq_k hc g a b hb).1
  have l1 := (lq_k hc g a b hb).2
  unfold gI
  by_cases h1 : r < tb_w T 0 g a b
  · obtain ⟨x, x1, x2⟩ := (up_run hc (3 * (b - a))).1 g a b r h1 hr3 hb (by omega)
    refine ⟨x, ?_, ru_eq x2 (fun rest F V => ?_)⟩
    · rw [List.getElem?_append_left ((cq_lt l0 hr3).mp h1)]; exact x1
    · unfold op_i; rw [if_pos h1]; rfl
  · have e0 : tb_w T 0 g a b = (gU w sg T g a b).length := by unfold cq at l0; omega
    rw [List.getElem?_append_right (by omega), ← e0]
    by_cases h2 : r - tb_w T 0 g a b < tb_w T 1 g a b
    · obtain ⟨x, x1, x2⟩ := (up_run hc (3 * (b - a))).2 g a b _ h2 (by omega) hb (by omega)
      refine ⟨x, ?_, ru_eq (ru_mono x2 (by omega)) (fun rest F V => ?_)⟩
      · rw [List.getElem?_append_left ((cq_lt l1 (by omega)).mp h2)]; exact x1
      · unfold op_i; rw [if_neg h1, if_pos h2]; rfl
    · have e1 : tb_w T 1 g a b = (gP w sg T g a b).length := by unfold cq at l1; omega
      rw [List.getElem?_append_right (by omega), ← e1]
      have h3 : r - tb_w T 0 g a b - tb_w T 1 g a b < ct_gs w a b g 0 := by omega
      obtain ⟨k1, k2, k3, k4⟩ := gk_b (w := w) (a := a) (b := b) g 0 _ h3
      obtain ⟨x, x1, x2⟩ := g_run (sg := sg) (g := g) (T := T) (I := I) (show b ≤ 24 by omega) hab k3 (by omega)
      refine ⟨x, ?_, ru_eq x2 (fun rest F V => ?_)⟩
      · rw [gk_get (by omega) g 0 _ (by omega) h3]; exact x1
      · unfold op_i; rw [if_neg h1, if_neg h2]
theorem d_run (hc : tc_ w sg g T I) : ∀ n a r, a + n = w.1 → r < 3000 → (a < w.1 → r < iw_s w g T I a (w.1 - a) (a + 1)) → (a = w.1 → r = 0) → ∃ x, (gD w sg g T a)[r]? = some x ∧ rn w sg g T I [(3, 0, a, 0, r)] x a w.1 (3 * (w.1 - a) + 1) := by
  intro n
  induction n using Nat.strongRecOn with
  | _ n ih =>
    intro a r hn hr3 hr hr0
    by_cases ha : a < w.1
    · obtain ⟨x, ex⟩ : ∃ x, x = ik_ w g T I a (w.1 - a) (a + 1) r := ⟨_, rfl⟩
      obtain ⟨k1, k2, k3, k4⟩ := ik_b (w := w) (g := g) (T := T) (I := I) (a := a) (w.1 - a) (a + 1) r (hr ha)
      have hg := ik_get hc (a := a) (w.1 - a) (a + 1) r (by omega) (by omega) hr3 (hr ha)
      rw [← gD_eq ha] at hg
      rw [← ex] at k1 k2 k3 k4 hg
      obtain ⟨d1, d2⟩ := dv_lt k3
      have hle : ct_it w g T a x.1 ≤ tb_w T 0 g a x.1 + tb_w T 1 g a x.1 + ct_gs w a x.1 g 0 := Nat.min_le_left _ _
      have hdl := Nat.div_le_self x.2 (I x.1)
      have hml : x.2 % I x.1 ≤ x.2 := Nat.mod_le _ _
      have hD := gD_cq hc (w.1 - x.1) x.1 (by omega)
      have hI := gI_cq hc (a := a) (b := x.1) (by omega)
      obtain ⟨y, y1, y2⟩ := i_run hc (show a < x.1 by omega) (show x.1 ≤ w.1 by omega) (r := x.2 / I x.1) (by omega) (by omega)
      obtain ⟨z, z1, z2⟩ := ih (w.1 - x.1) (by omega) x.1 (x.2 % I x.1) (by omega) (by omega) (fun hx => by
        have h5 := hc.2.2.1.2 x.1 (Nat.zero_le _) hx
        unfold iw_d at h5
        rw [h5] at d2 ⊢
        omega) (fun hx => by
        rw [hx, hc.2.2.1.1] at d2
        rw [hx, hc.2.2.1.1]
        omega)
      obtain ⟨q1, q2⟩ := cq_dm hD (show x.2 < 3000 by omega)
      have hxl : x.2 < (gI w sg g T a x.1).length * (gD w sg g T x.1).length := (cq_lt (cq_mul hI hD) (by omega)).mp k3
      obtain ⟨y', z', e1, e2, e3⟩ := gx_dm hxl
      rw [← q1, y1] at e1
      rw [← q2, z1] at e2
      cases e1; cases e2
      refine ⟨gc y z, hg.trans e3, ?_⟩
      have hs := ru_app y2 z2
      have := rn_step (w := w) (sg := sg) (g := g) (T := T) (I := I) (t := (3, 0, a, 0, r)) (fun P => by
        show op_is w sg g T I a r P = op_i w sg g T a x.1 (x.2 / I x.1) ([(3, 0, x.1, 0, x.2 % I x.1)] ++ P.1, P.2)
        unfold op_is
        rw [if_neg (by omega), ← ex]
        rfl) hs
      exact ru_mono this (by omega)
    · have e : a = w.1 := by omega
      rw [hr0 e]
      refine ⟨([], []), by rw [gD_end (by omega)]; rfl, ?_⟩
      rw [e]
      have := rn_step (w := w) (sg := sg) (g := g) (T := T) (I := I) (t := (3, 0, w.1, 0, 0)) (P0 := fun P => ([] ++ P.1, P.2)) (fun P => by
        show op_is w sg g T I w.1 0 P = _
        unfold op_is
        rw [if_pos rfl]
        rfl) (rn_nil (a := w.1))
      exact ru_mono this (by omega)
theorem tk_done : ∀ (f : Nat) (x : List Nat × (Nat → Nat)), tk_r w sg g T I f ([], x) = ([], x)
  | 0, _ => rfl
  | _ + 1, _ => rfl
/-- what the reference finds as reading q is element q of the list -/
theorem rf_get (hc : tc_ w sg g T I) {q : Nat} (hq : q < I 0) : ∃ x, (gD w sg g T 0)[q]? = some x ∧ (rf_ w sg g T I q).1 = x.1 ∧ (rf_ w sg g T I q).2 = sv (fun _ => 0) 0 x.2 ∧ x.2.length = w.1 := by
  obtain ⟨h1, h2, -, -⟩ := rf_ok hc hq
  have hw := hc.2.2.2.1
  obtain ⟨x, x1, x2⟩ := d_run hc w.1 0 q (by omega) h1 h2 (fun e => by
    rw [e, hc.2.2.1.1] at hq
    omega)
  refine ⟨x, x1, ?_⟩
  obtain ⟨s, s1, s2⟩ := x2.2.2 [] [] (fun _ => 0) (fun _ _ _ => rfl)
  have h3 := s2 (100 - s)
  rw [show s + (100 - s) = 100 from by omega] at h3
  have h4 : rf_ w sg g T I q = ([] ++ x.1, sv (fun _ => 0) 0 x.2) := by
    unfold rf_
    have h5 : tk_r w sg g T I 100 ([(3, 0, 0, 0, q)], [], fun _ => 0) = tk_r w sg g T I (100 - s) ([], [] ++ x.1, sv (fun _ => 0) 0 x.2) := h3
    rw [h5, tk_done]
  rw [h4]
  exact ⟨rfl, rfl, by have := x2.1; omega⟩
end GIS
