/-! a reading taken out by its rank is the list's element -/
def sv (V : Nat → Nat) (a : Nat) (l : List Nat) : Nat → Nat := fun i => if a ≤ i ∧ i < a + l.length then l.getD (i - a) 0 else V i
theorem sv_nil {V : Nat → Nat} {a : Nat} : sv V a [] = V := by
  funext i; unfold sv; rw [if_neg (by rw [List.length_nil]; omega)]
theorem sv_app {V : Nat → Nat} {a : Nat} {l m : List Nat} : sv (sv V a l) (a + l.length) m = sv V a (l ++ m) := by
  funext i
  unfold sv
  rw [List.length_append]
  by_cases h1 : a + l.length ≤ i ∧ i < a + l.length + m.length
  · rw [if_pos h1, if_pos (by omega), List.getD_eq_getElem?_getD, List.getD_eq_getElem?_getD, List.getElem?_append_right (by omega), show i - a - l.length = i - (a + l.length) from by omega]
  · rw [if_neg h1]
    by_cases h2 : a ≤ i ∧ i < a + l.length
    · rw [if_pos h2, if_pos (by omega), List.getD_eq_getElem?_getD, List.getD_eq_getElem?_getD, List.getElem?_append_left (by omega)]
    · rw [if_neg h2, if_neg (by omega)]
theorem sv_app' {V : Nat → Nat} {a c : Nat} {l m : List Nat} (h : c = a + l.length) : sv (sv V c m) a l = sv V a (l ++ m) := by
  subst h
  funext i
  unfold sv
  rw [List.length_append]
  by_cases h1 : a ≤ i ∧ i < a + l.length
  · rw [if_pos h1, if_pos (by omega), List.getD_eq_getElem?_getD, List.getD_eq_getElem?_getD, List.getElem?_append_left (by omega)]
  · rw [if_neg h1]
    by_cases h2 : a + l.length ≤ i ∧ i < a + l.length + m.length
    · rw [if_pos h2, if_pos (by omega), List.getD_eq_getElem?_getD, List.getD_eq_getElem?_getD, List.getElem?_append_right (by omega), show i - a - l.length = i - (a + l.length) from by omega]
    · rw [if_neg h2, if_neg (by omega)]
theorem sv_one {V : Nat → Nat} {a v : Nat} : rm_up V a v = sv V a [v] := by
  funext i
  unfold sv rm_up
  by_cases h : i = a
  · rw [if_pos h, if_pos (by rw [h]; simp), h, Nat.sub_self]; rfl
  · rw [if_neg h, if_neg (by simp; omega)]
theorem sv_z {V : Nat → Nat} {a : Nat} (h : V a = 0) : sv V a [0] = V := by
  rw [← sv_one]
  funext i
  unfold rm_up
  by_cases h1 : i = a
  · rw [if_pos h1, h1, h]
  · rw [if_neg h1]
theorem sv_two {V : Nat → Nat} {a v : Nat} (h : V (a + 1) = 0) : rm_up V a v = sv V a [v, 0] := by
  have e : sv V a [v, 0] = sv (sv V a [v]) (a + 1) [0] := (sv_app (V := V) (a := a) (l := [v]) (m := [0])).symm
  rw [e, ← sv_one (V := V), sv_z (by rw [rm_up_n (by omega)]; exact h)]
theorem sv_out {V : Nat → Nat} {a i : Nat} {l : List Nat} (h : i < a ∨ a + l.length ≤ i) : sv V a l i = V i := if_neg (by omega)
section RUN
variable {w : ro_w} {sg g : Nat} {T I : Nat → Nat}
/-- from P0 the machine goes on, in m steps at the most, to where the segment x of places a up to b is told -/
def ru (w : ro_w) (sg g : Nat) (T I : Nat → Nat) (P0 : tk_P → tk_P) (x : gR) (a b m : Nat) : Prop := x.2.length = b - a ∧ a ≤ b ∧ ∀ (rest : List tk_T) (F : List Nat) (V : Nat → Nat), (∀ i, a ≤ i → i < b → V i = 0) → ∃ s, s ≤ m ∧ ∀ f, tk_r w sg g T I (s + f) (P0 (rest, F, V)) = tk_r w sg g T I f (rest, F ++ x.1, sv V a x.2)
def rn (w : ro_w) (sg g : Nat) (T I : Nat → Nat) (ts : List tk_T) (x : gR) (a b m : Nat) : Prop := ru w sg g T I (fun P => (ts ++ P.1, P.2)) x a b m
theorem ru_mono {P0 : tk_P → tk_P} {x : gR} {a b m n : Nat} (h : ru w sg g T I P0 x a b m) (hm : m ≤ n) : ru w sg g T I P0 x a b n := ⟨h.1, h.2.1, fun rest F V hz => by
  obtain ⟨s, h1, h2⟩ := h.2.2 rest F V hz
  exact ⟨s, by omega, h2⟩⟩
theorem ru_eq {P0 P1 : tk_P → tk_P} {x : gR} {a b m : Nat} (h : ru w sg g T I P0 x a b m) (e : ∀ rest F V, P1 (rest, F, V) = P0 (rest, F, V)) : ru w sg g T I P1 x a b m := ⟨h.1, h.2.1, fun rest F V hz => by rw [e]; exact h.2.2 rest F V hz⟩
theorem rn_nil {a : Nat} : rn w sg g T I [] ([], []) a a 0 := ⟨by simp, Nat.le_refl _, fun rest F V _ => ⟨0, Nat.le_refl _, fun f => by
  show tk_r w sg g T I (0 + f) (rest, F, V) = _
  rw [Nat.zero_add, sv_nil, List.append_nil]⟩⟩
theorem ru_app {P0 : tk_P → tk_P} {us : List tk_T} {x y : gR} {a c b m n : Nat} (h1 : ru w sg g T I P0 x a c m) (h2 : rn w sg g T I us y c b n) : ru w sg g T I (fun P => P0 (us ++ P.1, P.2)) (gc x y) a b (m + n) := by
  have l1 := h1.1
  have l2 := h2.1
  have c1 := h1.2.1
  have c2 := h2.2.1
  refine ⟨by show (x.2 ++ y.2).length = _; rw [List.length_append]; omega, by omega, fun rest F V hz => ?_⟩
  obtain ⟨s, s1, s2⟩ := h1.2.2 (us ++ rest) F V (fun i z1 z2 => hz i z1 (by omega))
  obtain ⟨t, t1, t2⟩ := h2.2.2 rest (F ++ x.1) (sv V a x.2) (fun i z1 z2 => by rw [sv_out (by omega)]; exact hz i (by omega) z2)
  refine ⟨s + t, by omega, fun f => ?_⟩
  rw [Nat.add_assoc, s2]
  have := t2 f
  rw [this, List.append_assoc, show c = a + x.2.length from by omega, sv_app]
  rfl
theorem rn_app {ts us : List tk_T} {x y : gR} {a c b m n : Nat} (h1 : rn w sg g T I ts x a c m) (h2 : rn w sg g T I us y c b n) : rn w sg g T I (ts ++ us) (gc x y) a b (m + n) :=
  ru_eq (ru_app h1 h2) (fun rest F V => by show (ts ++ us ++ rest, F, V) = (ts ++ (us ++ rest), F, V); rw [List.append_assoc])
theorem rn_step {t : tk_T} {P0 : tk_P → tk_P} {x : gR} {a b m : Nat} (e : ∀ P, tk_s w sg g T I t P = P0 P) (h : ru w sg g T I P0 x a b m) : rn w sg g T I [t] x a b (m + 1) := ⟨h.1, h.2.1, fun rest F V hz => by
  obtain ⟨s, h1, h2⟩ := h.2.2 rest F V hz
  refine ⟨s + 1, by omega, fun f => ?_⟩
  rw [show s + 1 + f = (s + f) + 1 from by omega, ← h2]
  show tk_r w sg g T I (s + f) (tk_s w sg g T I t (rest, F, V)) = _
  rw [e]⟩
/-- a note in front, with what follows -/
theorem ru_front {ns : List tk_T} {y : gR} {vs : List Nat} {a b m : Nat} {V' : (Nat → Nat) → Nat → Nat} (hV : ∀ V : Nat → Nat, (∀ i, a ≤ i → i < b → V i = 0) → V' V = sv V a vs) (h : rn w sg g T I ns y (a + vs.length) b m) : ru w sg g T I (fun P => (ns ++ P.1, P.2.1, V' P.2.2)) (gc ([], vs) y) a b m := by
  have l1 := h.1
  have c1 := h.2.1
  refine ⟨by show (vs ++ y.2).length = _; rw [List.length_append]; omega, by omega, fun rest F V hz => ?_⟩
  obtain ⟨s, s1, s2⟩ := h.2.2 rest F (sv V a vs) (fun i z1 z2 => by rw [sv_out (by omega)]; exact hz i (by omega) z2)
  refine ⟨s, s1, fun f => ?_⟩
  show tk_r w sg g T I (s + f) (ns ++ rest, F, V' V) = tk_r w sg g T I f (rest, F ++ ([] ++ y.1), sv V a (vs ++ y.2))
  rw [hV V hz, ← sv_app]
  exact s2 f
theorem ru_back {ns : List tk_T} {y : gR} {vs : List Nat} {a c b m : Nat} {V' : (Nat → Nat) → Nat → Nat} (hb : b = c + vs.length) (hV : ∀ V : Nat → Nat, (∀ i, a ≤ i → i < b → V i = 0) → V' V = sv V c vs) (h : rn w sg g T I ns y a c m) : ru w sg g T I (fun P => (ns ++ P.1, P.2.1, V' P.2.2)) (gc y ([], vs)) a b m := by
  have l1 := h.1
  have c1 := h.2.1
  refine ⟨by show (y.2 ++ vs).length = _; rw [List.length_append]; omega, by omega, fun rest F V hz => ?_⟩
  obtain ⟨s, s1, s2⟩ := h.2.2 rest F (sv V c vs) (fun i z1 z2 => by rw [sv_out (by omega)]; exact hz i z1 (by omega))
  refine ⟨s, s1, fun f => ?_⟩
  show tk_r w sg g T I (s + f) (ns ++ rest, F, V' V) = tk_r w sg g T I f (rest, F ++ (y.1 ++ []), sv V a (y.2 ++ vs))
  rw [hV V hz, List.append_nil, ← sv_app' (show c = a + y.2.length from by omega)]
  exact s2 f
/-- a form told first -/
theorem ru_tell {P0 : tk_P → tk_P} {x : gR} {a b m : Nat} (fm : Nat) (h : ru w sg g T I P0 x a b m) : ru w sg g T I (fun P => P0 (op_t fm P)) (gc ([fm], []) x) a b m := ⟨by show ([] ++ x.2).length = _; exact h.1, h.2.1, fun rest F V hz => by
  obtain ⟨s, h1, h2⟩ := h.2.2 rest (F ++ [fm]) V hz
  refine ⟨s, h1, fun f => ?_⟩
  show tk_r w sg g T I (s + f) (P0 (rest, F ++ [fm], V)) = tk_r w sg g T I f (rest, F ++ ([fm] ++ x.1), sv V a ([] ++ x.2))
  rw [h2 f, List.append_assoc]
  rfl⟩
theorem rn_12 {b : Nat} (hb : 1 ≤ b) : rn w sg g T I [(4, 12, 0, 0, 0)] ([12], [0]) (b - 1) b 1 := by
  refine ⟨by simp; omega, by omega, fun rest F V hz => ⟨1, Nat.le_refl _, fun f => ?_⟩⟩
  rw [Nat.add_comm 1 f]
  show tk_r w sg g T I f (rest, F ++ [12], V) = tk_r w sg g T I f (rest, F ++ [12], sv V (b - 1) [0])
  rw [sv_z (hz _ (Nat.le_refl _) (by omega))]
theorem rn_3 {k a b : Nat} (hb : b = a + 1 ∨ b = a + 2) : rn w sg g T I [(2, k, a, b, 0)] (g3 sg k a b) a b 1 := by
  have e : ∀ P, tk_s w sg g T I (2, k, a, b, 0) P = op_d sg k a b P := fun P => rfl
  by_cases h : b = a + 1
  · have e1 : g3 sg k a b = gc ([16], []) (gc ([], [2 * fl_ sg k / 3]) ([], [])) := by unfold g3; rw [if_pos h]; rfl
    rw [e1]
    refine rn_step e (ru_eq (ru_tell 16 (ru_front (ns := []) (V' := fun V => rm_up V a (2 * fl_ sg k / 3)) (fun V _ => sv_one) (by rw [h]; exact rn_nil))) (fun rest F V => ?_))
    unfold op_d
    rw [if_pos h]
    rfl
  · have e1 : g3 sg k a b = gc ([17], []) (gc ([], [fl_ sg k / 3, fl_ sg k / 3]) ([], [])) := by unfold g3; rw [if_neg h]; rfl
    rw [e1]
    refine rn_step e (ru_eq (ru_tell 17 (ru_front (ns := []) (V' := fun V => rm_up (rm_up V a (fl_ sg k / 3)) (a + 1) (fl_ sg k / 3)) (fun V _ => ?_) (by rw [show b = a + [fl_ sg k / 3, fl_ sg k / 3].length from by simp; omega]; exact rn_nil))) (fun rest F V => ?_))
    · rw [sv_one, sv_one]
      exact sv_app (V := V) (a := a) (l := [fl_ sg k / 3]) (m := [fl_ sg k / 3])
    · unfold op_d
      rw [if_neg h]
      rfl
/-- the places of a task, its element -/
def ta_ (t : tk_T) : Nat := t.2.2.1
def te_ (w : ro_w) (t : tk_T) : Nat := if t.1 = 3 then w.1 else t.2.2.2.1
theorem ov4 {k a c to q : Nat} {A B : List gR} {n1 n2 : Nat} {t1 t2 : Nat → tk_T} (hA : cq n1 A.length) (hB : cq n2 B.length) (hq : q < n1 * n2) (hq3 : q < 3000) {m1 m2 : Nat} (r1 : ∀ i, i < n1 → i < 3000 → ∃ x, A[i]? = some x ∧ rn w sg g T I [t1 i] x a c m1) (r2 : ∀ i, i < n2 → i < 3000 → ∃ x, B[i]? = some x ∧ rn w sg g T I [t2 i] x c to m2) : ∃ z, (gx A B)[q]? = some z ∧ rn w sg g T I [t1 (q / n2), t2 (q % n2)] z a to (m1 + m2) := by
  obtain ⟨d1, d2⟩ := dv_lt hq
  have hdl := Nat.div_le_self q n2
  have hml : q % n2 ≤ q := Nat.mod_le _ _
  obtain ⟨x, x1, x2⟩ := r1 _ d1 (by omega)
  obtain ⟨y, y1, y2⟩ := r2 _ d2 (by omega)
  obtain ⟨x', y', e1, e2, e3⟩ := gx_dm ((cq_lt (cq_mul hA hB) hq3).mp hq)
  obtain ⟨q1, q2⟩ := cq_dm hB hq3
  rw [← q1, x1] at e1
  rw [← q2, y1] at e2
  cases e1; cases e2
  exact ⟨_, e3, rn_app (ts := [t1 (q / n2)]) x2 y2⟩
theorem map_get {l : List gR} {q : Nat} {z : gR} (h : l[q]? = some z) (f : gR → gR) : (l.map f)[q]? = some (f z) := by rw [List.getElem?_map, h]; rfl
/-- what is behind a unit's form -/
theorem ov (hc : tc_ w sg g T I) {k a to : Nat} (hto : to ≤ w.1) {n : Nat} (hn : 3 * (to - a) - 1 ≤ n)
    (iu : ∀ k a b q, q < tb_w T 0 k a b → q < 3000 → b ≤ w.1 → 3 * (b - a) - 1 < n → ∃ x, (gU w sg T k a b)[q]? = some x ∧ rn w sg g T I [(0, k, a, b, q)] x a b (3 * (b - a) - 1))
    (ip : ∀ k a b q, q < tb_w T 1 k a b → q < 3000 → b ≤ w.1 → 3 * (b - a) - 2 < n → ∃ x, (gP w sg T k a b)[q]? = some x ∧ rn w sg g T I [(1, k, a, b, q)] x a b (3 * (b - a) - 2)) {f c c2 q : Nat} (hf : 4 ≤ f) (hv : un_q T k a to f c c2 q) (hq3 : q < 3000) :
    ∃ z, (gB sg (gU w sg T (k + 1)) (gP w sg T (k + 1)) k a to f c c2)[q]? = some (gc ([f], []) z) ∧ ru w sg g T I (op_v sg T k a to f c c2 q) z a to (3 * (to - a) - 2) := by
  have hl := lq_k hc (k + 1)
  rcases hv with ⟨v1, v2, -⟩ | ⟨v1, v2, v3, v4⟩ | ⟨v1, v2⟩ | ⟨v1, v2, v3, v4, v5⟩ | ⟨v1, v2⟩ | ⟨v1, v2, v3, v4⟩ | ⟨v1, v2, v3, v4⟩ | ⟨v1, v2, v3, v4⟩
  · omega
  · subst v1
    obtain ⟨z, z1, z2⟩ := ov4 (k := k) (t1 := fun i => (0, k + 1, a, c, i)) (t2 := fun i => (0, k + 1, c, to, i)) (hl a c (by omega)).1 (hl c to hto).1 v4 hq3 (fun i h1 h2 => iu (k + 1) a c i h1 h2 (by omega) (by omega)) (fun i h1 h2 => iu (k + 1) c to i h1 h2 hto (by omega))
    exact ⟨z, map_get z1 (gc ([4], [])), ru_eq (ru_mono z2 (by omega)) (fun rest F V => rfl)⟩
  · subst v1
    have h1 := (ch_p hc v2 hto).2
    obtain ⟨z, z1, z2⟩ := ip (k + 1) a to q v2 hq3 hto (by omega)
    exact ⟨z, map_get z1 (gc ([5], [])), ru_eq z2 (fun rest F V => rfl)⟩
  · subst v1
    have e1 : q < (tb_w T 0 (k + 1) a c * tb_w T 0 (k + 1) c c2) * tb_w T 0 (k + 1) c2 to := Nat.lt_of_lt_of_le v5 (Nat.mul_le_mul_right _ (Nat.min_le_left _ _))
    obtain ⟨d1, d2⟩ := dv_lt e1
    obtain ⟨d3, d4⟩ := dv_lt d1
    have l0 := Nat.div_le_self q (tb_w T 0 (k + 1) c2 to)
    have l1 : q % tb_w T 0 (k + 1) c2 to ≤ q := Nat.mod_le _ _
    have l2 := Nat.div_le_self (q / tb_w T 0 (k + 1) c2 to) (tb_w T 0 (k + 1) c c2)
    have l3 : q / tb_w T 0 (k + 1) c2 to % tb_w T 0 (k + 1) c c2 ≤ q / tb_w T 0 (k + 1) c2 to := Nat.mod_le _ _
    obtain ⟨x, x1, x2⟩ := iu (k + 1) a c _ d3 (by omega) (by omega) (by omega)
    obtain ⟨y, y1, y2⟩ := iu (k + 1) c c2 _ d4 (by omega) (by omega) (by omega)
    obtain ⟨u, u1, u2⟩ := iu (k + 1) c2 to _ d2 (by omega) hto (by omega)
    have hA := (hl a c (by omega)).1
    have hB := (hl c c2 (by omega)).1
    have hC := (hl c2 to hto).1
    obtain ⟨p1, p2⟩ := cq_dm hC hq3
    obtain ⟨p3, p4⟩ := cq_dm hB (show q / tb_w T 0 (k + 1) c2 to < 3000 by omega)
    have hyu : (gx (gU w sg T (k + 1) c c2) (gU w sg T (k + 1) c2 to))[(q / tb_w T 0 (k + 1) c2 to % tb_w T 0 (k + 1) c c2) * (gU w sg T (k + 1) c2 to).length + q % tb_w T 0 (k + 1) c2 to]? = some (gc y u) := gx_get y1 u1
    have hz := gx_get x1 hyu
    rw [gx_len] at hz
    have hi : q / tb_w T 0 (k + 1) c2 to / tb_w T 0 (k + 1) c c2 * ((gU w sg T (k + 1) c c2).length * (gU w sg T (k + 1) c2 to).length) + ((q / tb_w T 0 (k + 1) c2 to % tb_w T 0 (k + 1) c c2) * (gU w sg T (k + 1) c2 to).length + q % tb_w T 0 (k + 1) c2 to) = q := by
      rw [p3, p4, p2, p1, ← Nat.mul_assoc, ← Nat.add_assoc, ← Nat.add_mul]
      have a1 := Nat.div_add_mod (q / (gU w sg T (k + 1) c2 to).length) (gU w sg T (k + 1) c c2).length
      have a2 := Nat.div_add_mod q (gU w sg T (k + 1) c2 to).length
      rw [Nat.mul_comm (q / (gU w sg T (k + 1) c2 to).length / (gU w sg T (k + 1) c c2).length), a1, Nat.mul_comm, a2]
    rw [hi] at hz
    have hr := rn_app (ts := [(0, k + 1, a, c, q / tb_w T 0 (k + 1) c2 to / tb_w T 0 (k + 1) c c2)]) x2 (rn_app (ts := [(0, k + 1, c, c2, q / tb_w T 0 (k + 1) c2 to % tb_w T 0 (k + 1) c c2)]) y2 u2)
    exact ⟨_, map_get hz (gc ([6], [])), ru_eq (ru_mono hr (by omega)) (fun rest F V => rfl)⟩
  · subst v1
    have h1 := (ch_u hc v2 hto).2
    obtain ⟨z, z1, z2⟩ := iu (k + 1) (a + 1) to q v2 hq3 hto (by omega)
    have hr := ru_front (V' := fun V => rm_up V a (2 * fl_ sg (k + 1))) (vs := [2 * fl_ sg (k + 1)]) (a := a) (b := to) (fun V _ => sv_one) z2
    refine ⟨gc ([], [2 * fl_ sg (k + 1)]) z, map_get z1 (gc ([7], [2 * fl_ sg (k + 1)])), ru_eq (ru_mono hr (by omega)) (fun rest F V => rfl)⟩
  · have h1 := (ch_u hc v4 (by omega)).2
    obtain ⟨z, z1, z2⟩ := iu (k + 1) a c q v4 hq3 (by omega) (by omega)
    have hr := ru_back (V' := fun V => rm_up V c (2 * fl_ sg (k + 1))) (vs := [2 * fl_ sg (k + 1)]) (a := a) (c := c) (b := to) (by simp; omega) (fun V _ => sv_one) z2
    rcases v1 with v1 | v1
    · subst v1
      refine ⟨_, (map_get z1 (fun x => gc (gc ([8], []) x) ([], [2 * fl_ sg (k + 1)]))).trans (by rw [gc_assoc]), ru_eq (ru_mono hr (by omega)) (fun rest F V => rfl)⟩
    · subst v1
      refine ⟨_, (map_get z1 (fun x => gc (gc ([9], []) x) ([], [2 * fl_ sg (k + 1)]))).trans (by rw [gc_assoc]), ru_eq (ru_mono hr (by omega)) (fun rest F V => rfl)⟩
  · subst v1
    have h1 := (ch_p hc (dv_lt v4).2 hto).2
    obtain ⟨z, z1, z2⟩ := ov4 (k := k) (t1 := fun i => (0, k + 1, a, c, i)) (t2 := fun i => (1, k + 1, c, to, i)) (hl a c (by omega)).1 (hl c to hto).2 v4 hq3 (fun i h1 h2 => iu (k + 1) a c i h1 h2 (by omega) (by omega)) (fun i h1 h2 => ip (k + 1) c to i h1 h2 hto (by omega))
    exact ⟨z, map_get z1 (gc ([10], [])), ru_eq (ru_mono z2 (by omega)) (fun rest F V => rfl)⟩
  · subst v1
    obtain ⟨z, z1, z2⟩ := ov4 (k := k) (t1 := fun i => (1, k + 1, a, c, i)) (t2 := fun i => (0, k + 1, c, to, i)) (hl a c (by omega)).2 (hl c to hto).1 v4 hq3 (fun i h1 h2 => ip (k + 1) a c i h1 h2 (by omega) (by omega)) (fun i h1 h2 => iu (k + 1) c to i h1 h2 hto (by omega))
    exact ⟨z, map_get z1 (gc ([11], [])), ru_eq (ru_mono z2 (by omega)) (fun rest F V => rfl)⟩
theorem fl_ok {k a to f c c2 q : Nat} (hf : f = 1 ∧ to = a + 1 ∨ f = 2 ∧ to = a + 1 ∨ f = 3 ∧ to = a + 2) (hq : q = 0) : ∃ z, (gB sg (gU w sg T (k + 1)) (gP w sg T (k + 1)) k a to f c c2)[q]? = some (gc ([f], []) z) ∧ ru w sg g T I (op_v sg T k a to f c c2 q) z a to 0 := by
  subst hq
  rcases hf with ⟨rfl, rfl⟩ | ⟨rfl, rfl⟩ | ⟨rfl, rfl⟩
  · exact ⟨([], [fl_ sg k]), rfl, ru_eq (ru_front (ns := []) (y := ([], [])) (V' := fun V => rm_up V a (fl_ sg k)) (vs := [fl_ sg k]) (fun V _ => sv_one) rn_nil) (fun rest F V => rfl)⟩
  · exact ⟨([], [fl_ sg k]), rfl, ru_eq (ru_front (ns := []) (y := ([], [])) (V' := fun V => rm_up V a (fl_ sg k)) (vs := [fl_ sg k]) (fun V _ => sv_one) rn_nil) (fun rest F V => rfl)⟩
  · exact ⟨([], [fl_ sg k, 0]), rfl, ru_eq (ru_front (ns := []) (y := ([], [])) (V' := fun V => rm_up V a (fl_ sg k)) (vs := [fl_ sg k, 0]) (fun V hz => sv_two (hz _ (by omega) (by omega))) rn_nil) (fun rest F V => rfl)⟩
/-- an offer of a unit, run -/
def uo (w : ro_w) (sg g : Nat) (T I : Nat → Nat) (k a b : Nat) (e : sc_O) : Prop := ∀ q, q < e.2.2.2.2 → q < 3000 → ∃ x, (gO sg (gU w sg T (k + 1)) (gP w sg T (k + 1)) k a b e)[q]? = some x ∧ ru w sg g T I (op_u sg T k a b e q) x a b (3 * (b - a) - 2)
theorem uo_of {k a b f c c2 nn m : Nat} {dot : Bool} {to : Nat} (hb1 : 1 ≤ b) (hto : (if dot = true then b - 1 else b) = to) (ha : a < to) (hm : m + (if dot = true then 1 else 0) ≤ 3 * (b - a) - 2) (h : ∀ q, q < nn → q < 3000 → ∃ z, (gB sg (gU w sg T (k + 1)) (gP w sg T (k + 1)) k a to f c c2)[q]? = some (gc ([f], []) z) ∧ ru w sg g T I (op_v sg T k a to f c c2 q) z a to m) : uo w sg g T I k a b (f, c, c2, dot, nn) := by
  intro q hq hq3
  obtain ⟨z, z1, z2⟩ := h q hq hq3
  unfold gO op_u
  dsimp only at hq ⊢
  rw [if_neg (by omega)]
  cases dot
  · rw [if_neg (by decide)] at hto hm
    subst hto
    simp only [if_neg (show ¬ (false = true) by decide)]
    exact ⟨_, z1, ru_mono (ru_tell f z2) (by omega)⟩
  · rw [if_pos rfl] at hto hm
    subst hto
    simp only [if_true]
    refine ⟨_, map_get z1 _, ?_⟩
    exact ru_eq (ru_mono (ru_app (ru_tell f z2) (rn_12 hb1)) (by omega)) (fun rest F V => rfl)
theorem uo_all (hc : tc_ w sg g T I) {k a b : Nat} (hab : a < b) (hb : b ≤ w.1) 
    (iu : ∀ k a' b' q, q < tb_w T 0 k a' b' → q < 3000 → b' ≤ w.1 → 3 * (b' - a') - 1 < 3 * (b - a) - 1 → ∃ x, (gU w sg T k a' b')[q]? = some x ∧ rn w sg g T I [(0, k, a', b', q)] x a' b' (3 * (b' - a') - 1))
    (ip : ∀ k a' b' q, q < tb_w T 1 k a' b' → q < 3000 → b' ≤ w.1 → 3 * (b' - a') - 2 < 3 * (b - a) - 1 → ∃ x, (gP w sg T k a' b')[q]? = some x ∧ rn w sg g T I [(1, k, a', b', q)] x a' b' (3 * (b' - a') - 2)) : ∀ e ∈ sp_unit w sg T k a b, uo w sg g T I k a b e := by
  have bz : ∀ (z : Bool) (q : Nat), q < Bool.toNat z → q = 0 := fun z q h => by cases z <;> simp at h <;> omega
  intro e he
  by_cases hf : 4 ≤ e.1
  · intro q hq hq3
    have hv := un_iq he hq
    have ht := uq_lt hc (show (if e.2.2.2.1 = true then b - 1 else b) ≤ w.1 by split <;> omega) hv
    obtain ⟨f, c, c2, dot, nn⟩ := e
    dsimp only at hv hf ht hq
    have := ov hc (show (if dot = true then b - 1 else b) ≤ w.1 by split <;> omega) (n := 3 * (b - a) - 1) (by split <;> omega) iu ip hf hv hq3
    refine uo_of (nn := nn) (m := 3 * ((if dot = true then b - 1 else b) - a) - 2) (by omega) rfl ht (by cases dot <;> simp_all <;> omega) ?_ q hq hq3
    intro q' hq' hq3'
    have hv' := un_iq he (show q' < ((f, c, c2, dot, nn) : sc_O).2.2.2.2 from hq')
    exact ov hc (show (if dot = true then b - 1 else b) ≤ w.1 by split <;> omega) (n := 3 * (b - a) - 1) (by split <;> omega) iu ip hf hv' hq3'
  · revert hf
    refine un_all (w := w) (sg := sg) (T := T) (M := fun e => ¬ 4 ≤ e.1 → uo w sg g T I k a b e) ?_ ?_ ?_ ?_ ?_ ?_ ?_ ?_ ?_ e he
    · exact fun h _ => uo_of (m := 0) (by omega) rfl (show a < b by omega) (by simp) (fun q hq _ => fl_ok (Or.inl ⟨rfl, h⟩) (bz _ _ hq))
    · exact fun h _ => uo_of (m := 0) (by omega) rfl (show a < b by omega) (by simp) (fun q hq _ => fl_ok (Or.inr (Or.inl ⟨rfl, h⟩)) (bz _ _ hq))
    · intro _ _ m _ _ h; exact absurd (show 4 ≤ 4 by decide) h
    · intro _ _ h; exact absurd (show 4 ≤ 5 by decide) h
    · exact fun _ h _ => uo_of (m := 0) (by omega) rfl (show a < b by omega) (by simp) (fun q hq _ => fl_ok (Or.inr (Or.inr ⟨rfl, h⟩)) (bz _ _ hq))
    · exact fun _ h _ => uo_of (m := 0) (to := b - 1) (by omega) rfl (by omega) (by simp; omega) (fun q hq _ => fl_ok (Or.inl ⟨rfl, by omega⟩) (bz _ _ hq))
    · exact fun _ h _ => uo_of (m := 0) (to := b - 1) (by omega) rfl (by omega) (by simp; omega) (fun q hq _ => fl_ok (Or.inr (Or.inl ⟨rfl, by omega⟩)) (bz _ _ hq))
    · intro _
      apply per_all
      · intro _ _ _ _ _ h; exact absurd (show 4 ≤ 6 by decide) h
      · intro _ h; exact absurd (show 4 ≤ 7 by decide) h
      · intro _ _ _ _ h; exact absurd (show 4 ≤ 8 by decide) h
      · intro _ _ _ h; exact absurd (show 4 ≤ 9 by decide) h
      · intro _ _ _ h; exact absurd (show 4 ≤ 10 by decide) h
      · intro _ _ _ h; exact absurd (show 4 ≤ 11 by decide) h
    · intro _ _
      apply per_all
      · intro _ _ _ _ _ h; exact absurd (show 4 ≤ 6 by decide) h
      · intro _ h; exact absurd (show 4 ≤ 7 by decide) h
      · intro _ _ _ _ h; exact absurd (show 4 ≤ 8 by decide) h
      · intro _ _ _ h; exact absurd (show 4 ≤ 9 by decide) h
      · intro _ _ _ h; exact absurd (show 4 ≤ 10 by decide) h
      · intro _ _ _ h; exact absurd (show 4 ≤ 11 by decide) h
theorem rn_T {k a b c c2 : Nat} (h1 : c = a + 1 ∨ c = a + 2) (h2 : c2 = c + 1 ∨ c2 = c + 2) (h3 : b = c2 + 1 ∨ b = c2 + 2) : ru w sg g T I (op_3 k a b c c2) (gT sg k a b c c2) a b 3 := by
  have hr := rn_app (ts := [(2, k, a, c, 0)]) (rn_3 (w := w) (sg := sg) (g := g) (T := T) (I := I) (k := k) h1) (rn_app (ts := [(2, k, c, c2, 0)]) (rn_3 h2) (rn_3 (k := k) h3))
  exact ru_eq (ru_tell 15 hr) (fun rest F V => rfl)
theorem th_c {k a b m p q : Nat} (h : q < ro_third w k a m * ro_third w k m p * ro_third w k p b) : q = 0 ∧ (m = a + 1 ∨ m = a + 2) ∧ (p = m + 1 ∨ p = m + 2) ∧ (b = p + 1 ∨ b = p + 2) := by
  have p1 : 0 < ro_third w k p b := Nat.pos_of_ne_zero (fun z => by rw [z, Nat.mul_zero] at h; omega)
  have p2 : 0 < ro_third w k m p := Nat.pos_of_ne_zero (fun z => by rw [z, Nat.mul_zero, Nat.zero_mul] at h; omega)
  have p3 : 0 < ro_third w k a m := Nat.pos_of_ne_zero (fun z => by rw [z, Nat.zero_mul, Nat.zero_mul] at h; omega)
  have := Nat.mul_le_mul (Nat.mul_le_mul (ro_third_le (w := w) (k := k) (a := a) (b := m)) (ro_third_le (w := w) (k := k) (a := m) (b := p))) (ro_third_le (w := w) (k := k) (a := p) (b := b))
  exact ⟨by omega, third_p p3, third_p p2, third_p p1⟩
theorem po_all {k a b : Nat} (hab : a < b) (hb : b ≤ w.1) 
    (iu : ∀ k a' b' q, q < tb_w T 0 k a' b' → q < 3000 → b' ≤ w.1 → 3 * (b' - a') - 1 < 3 * (b - a) - 2 → a' < b' ∧ ∃ x, (gU w sg T k a' b')[q]? = some x ∧ rn w sg g T I [(0, k, a', b', q)] x a' b' (3 * (b' - a') - 1)) : ∀ e ∈ sp_pair w sg T k a b, ∀ q, q < e.2.2.2.2 → q < 3000 → ∃ x, (gQ sg (gU w sg T (k + 1)) k a b e)[q]? = some x ∧ ru w sg g T I (op_pr sg k a b e q) x a b (3 * (b - a) - 3) := by
  apply pr_all
  · intro _ _ _ _ q hq hq3
    have hq : q < tb_w T 0 (k + 1) (a + 2) b := hq
    obtain ⟨h0, z, z1, z2⟩ := iu (k + 1) (a + 2) b q hq hq3 hb (by omega)
    have hr := ru_front (V' := fun V => rm_up V a (3 * fl_ sg (k + 1))) (vs := [3 * fl_ sg (k + 1), 0]) (a := a) (b := b) (fun V hz => sv_two (hz _ (by omega) (by omega))) z2
    refine ⟨gc ([13], [3 * fl_ sg (k + 1), 0]) z, ?_, ru_eq (ru_mono (ru_tell 13 hr) (by omega)) (fun rest F V => rfl)⟩
    unfold gQ
    dsimp only
    rw [if_neg (by omega), if_neg (by decide), if_pos rfl]
    exact map_get z1 _
  · intro _ _ h2 _ _ q hq hq3
    have hq : q < tb_w T 0 (k + 1) a (b - 2) := hq
    obtain ⟨h0, z, z1, z2⟩ := iu (k + 1) a (b - 2) q hq hq3 (by omega) (by omega)
    have hr := ru_back (V' := fun V => rm_up V (b - 2) (3 * fl_ sg (k + 1))) (vs := [3 * fl_ sg (k + 1), 0]) (a := a) (c := b - 2) (b := b) (by simp; omega) (fun V hz => sv_two (hz _ (by omega) (by omega))) z2
    refine ⟨gc ([14], []) (gc z ([], [3 * fl_ sg (k + 1), 0])), ?_, ru_eq (ru_mono (ru_tell 14 hr) (by omega)) (fun rest F V => rfl)⟩
    unfold gQ
    dsimp only
    rw [if_neg (by omega), if_neg (by decide), if_neg (by decide)]
    rw [map_get z1, gc_assoc]
  · intro m p h1 h2 h3 q hq hq3
    obtain ⟨e0, e1, e2, e3⟩ := th_c (show q < ro_third w k a m * ro_third w k m p * ro_third w k p b from hq)
    refine ⟨gT sg k a b m p, ?_, ru_eq (ru_mono (rn_T (k := k) e1 e2 e3) (by omega)) (fun rest F V => rfl)⟩
    show (if ro_third w k a m * ro_third w k m p * ro_third w k p b = 0 then ([] : List gR) else [gT sg k a b m p])[q]? = _
    rw [if_neg (by have : q < ro_third w k a m * ro_third w k m p * ro_third w k p b := hq; omega), e0]
    rfl
/-- units and pairs, run by their ranks -/
theorem up_run (hc : tc_ w sg g T I) : ∀ n, (∀ k a b q, q < tb_w T 0 k a b → q < 3000 → b ≤ w.1 → 3 * (b - a) - 1 < n → ∃ x, (gU w sg T k a b)[q]? = some x ∧ rn w sg g T I [(0, k, a, b, q)] x a b (3 * (b - a) - 1)) ∧ (∀ k a b q, q < tb_w T 1 k a b → q < 3000 → b ≤ w.1 → 3 * (b - a) - 2 < n → ∃ x, (gP w sg T k a b)[q]? = some x ∧ rn w sg g T I [(1, k, a, b, q)] x a b (3 * (b - a) - 2))
  | 0 => ⟨fun _ _ _ _ _ _ _ h => by omega, fun _ _ _ _ _ _ _ h => by omega⟩
  | n + 1 => by
    obtain ⟨iu, ip⟩ := up_run hc n
    constructor
    · intro k a b q hq hq3 hb hn
      obtain ⟨k7, hab, b24, -⟩ := tb_pos hc (by decide) (show 0 < tb_w T 0 k a b by omega)
      have hsm : q < sm_o (sp_unit w sg T k a b) := by
        have := (ch_u hc hq hb).1
        rcases this with ⟨v1, -⟩ | ⟨-, -, -, -, -, v6⟩ | ⟨v1, -⟩ | ⟨v1, -⟩ | ⟨v1, -⟩
        · cases v1
        · exact v6
        · cases v1
        · cases v1
        · cases v1
      obtain ⟨e, r, hp⟩ := pk_some _ _ hsm
      obtain ⟨p1, p2, p3⟩ := pk_mem _ _ _ _ hp
      obtain ⟨x, x1, x2⟩ := uo_all hc hab hb (fun k a' b' q h1 h2 h3 h4 => iu k a' b' q h1 h2 h3 (by omega)) (fun k a' b' q h1 h2 h3 h4 => ip k a' b' q h1 h2 h3 (by omega)) e p1 r p2 (by omega)
      refine ⟨x, ?_, ?_⟩
      · rw [gU_eq (by omega), if_pos ⟨hab, hb⟩, pk_get _ _ _ _ (gO_cq hb (lq_k hc (k + 1))) hq3 hp]
        exact x1
      · have hs := rn_step (t := (0, k, a, b, q)) (fun P => by
          show (match pk_ (sp_unit w sg T k a b) q with | some x => op_u sg T k a b x.1 x.2 P | none => P) = op_u sg T k a b e r P
          rw [hp]) x2
        rw [show 3 * (b - a) - 1 = 3 * (b - a) - 2 + 1 from by omega]
        exact hs
    · intro k a b q hq hq3 hb hn
      obtain ⟨k7, hab, b24, -⟩ := tb_pos hc (by decide) (show 0 < tb_w T 1 k a b by omega)
      have hsm : q < sm_o (sp_pair w sg T k a b) := by
        have := (ch_p hc hq hb).1
        rcases this with ⟨v1, -⟩ | ⟨v1, -⟩ | ⟨-, -, -, -, -, v6⟩ | ⟨v1, -⟩ | ⟨v1, -⟩
        · cases v1
        · cases v1
        · exact v6
        · cases v1
        · cases v1
      obtain ⟨e, r, hp⟩ := pk_some _ _ hsm
      obtain ⟨p1, p2, p3⟩ := pk_mem _ _ _ _ hp
      have h3 : 3 * (b - a) - 3 + 1 ≤ 3 * (b - a) - 2 ∨ b = a + 1 := by omega
      obtain ⟨x, x1, x2⟩ := po_all hab hb (fun k a' b' q h1 h2 h3 h4 => ⟨(ch_u hc h1 h3).2, iu k a' b' q h1 h2 h3 (by omega)⟩) e p1 r p2 (by omega)
      refine ⟨x, ?_, ?_⟩
      · rw [gP_eq (by omega), if_pos ⟨hab, hb⟩, pk_get _ _ _ _ (gQ_cq hb (lq_k hc (k + 1))) hq3 hp]
        exact x1
      · have hs := rn_step (t := (1, k, a, b, q)) (fun P => by
          show (match pk_ (sp_pair w sg T k a b) q with | some x => op_pr sg k a b x.1 x.2 P | none => P) = op_pr sg k a b e r P
          rw [hp]) x2
        exact ru_mono hs (by omega)
end RUN
