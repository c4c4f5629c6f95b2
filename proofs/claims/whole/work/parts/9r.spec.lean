/-! reading a voice: the words -/
section MLW
variable {K : mm_K} {d : Nat} {y : MethodName} {cc : ByteArray} {nL : Nat} {rt : Option FieldType} {pc : Nat} {L : List (Nat × Value)} {st : List Value} {h : mm_H} {kc ks : Nat} {Q : Option Value → mm_H → Prop}
theorem mm_ldcw {n : Nat} {v : Int32} (hd : decode cc pc = .ok (.ldc_w n, 3)) (hc : Jvm.Cond.constant y.cls n v ∈ K.2.2.2.2.1) (k : mm_V K d y cc nL rt (pc + 3) L (.int v :: st) h kc ks Q) : mm_V K d y cc nL rt (pc) L (st) h kc ks Q := by
  intro p e R s m args below meth c H locs ls cells slots mc ms X g1 g2 g3 g4 hR hS hl
  exact lv_ldcw X.1 X.2.1 X.2.2.2.2.2.1 (X.2.2.2.2.2.2.2.1 _ hc) hd (k p e R s m args below meth c H locs ls cells slots mc ms X g1 g2 g3 g4 hR hS hl)
theorem bI_uk : ∀ n, n < 32 → ((((nI n).toUInt32 &&& Int32.toUInt32 31).toBitVec).umod 32).toNat = n := by decide +kernel
theorem bI_ushr (a k : Nat) (ha : a < 2 ^ 31) (hk : k < 32) : ((nI a).toUInt32 >>> ((nI k).toUInt32 &&& Int32.toUInt32 31)).toInt32 = nI (a / 2 ^ k) := by
  rw [← Nat.shiftRight_eq_div_pow]
  apply bI_ext
  intro i hi
  rw [bI_lsb _ _ hi, Nat.testBit_shiftRight]
  show ((nI a).toBitVec >>> ((((nI k).toUInt32 &&& Int32.toUInt32 31).toBitVec).umod 32).toNat).getLsbD i = _
  rw [bI_uk k hk, BitVec.getLsbD_ushiftRight]
  by_cases h : k + i < 32
  · rw [bI_lsb _ _ h]
  · rw [BitVec.getLsbD_of_ge _ _ (by omega)]
    exact (Nat.testBit_lt_two_pow (Nat.lt_of_lt_of_le ha (Nat.pow_le_pow_right (by decide) (by omega)))).symm
theorem mn_iushr {a b : Nat} (hd : decode cc pc = .ok (.iushr, 1)) (ha : a < 2 ^ 31) (hb : b < 32) (k : mm_V K d y cc nL rt (pc + 1) L (.int (nI (a / 2 ^ b)) :: st) h kc ks Q) : mm_V K d y cc nL rt (pc) L (.int (nI b) :: .int (nI a) :: st) h kc ks Q := mm_iushr hd (by rw [bI_ushr _ _ ha hb]; exact k)
end MLW
theorem lg_at {n k : Nat} (h1 : 2 ^ k ≤ n) (h2 : n < 2 ^ (k + 1)) : n.log2 = k := (Nat.log2_eq_iff (by have := Nat.two_pow_pos k; omega)).mpr ⟨h1, h2⟩
/-- how far items reach -/
def fu_ (w : ro_w) (sg n : Nat) : Prop := ∃ IE : Nat → Nat, (∀ p, p < w.1 → mb (IE p) (IT w sg (gd_ sg) p)) ∧ (∀ p, IE p < 2 ^ 27) ∧ n = (rh_ IE w.1).log2
theorem rh_pos {IE : Nat → Nat} : ∀ n, (rh_ IE n).testBit 0 = true
  | 0 => by show Nat.testBit 1 0 = true; decide
  | n + 1 => by
    show (rh_ IE n ||| _).testBit 0 = true
    rw [Nat.testBit_or, rh_pos n]
    rfl
theorem rh_ne {IE : Nat → Nat} {n : Nat} : 1 ≤ rh_ IE n := by
  rcases Nat.eq_zero_or_pos (rh_ IE n) with h | h
  · have := rh_pos (IE := IE) n; rw [h] at this; cases this
  · exact h
/-- the readings found, copies written out, by strain -/
def sS (w : ro_w) (sg : Nat) : List gL := srt (fun x => sn_ x.2.1.1) 128 (RR (Br w sg (gd_ sg) 0))
/-- what is known of the voice that was read last -/
def kn_ (X : Nat → Nat → Int32) (Y : Nat → Nat → Int64) (w : ro_w) (sg a : Nat) : Prop := ∃ (dt : Nat) (E U P H PL RS CO AL LI : Nat → Nat), rq_ X w sg a dt E U P H PL RS CO AL LI ∧ fo2 X Y (RR (Br w sg (gd_ sg) 0)) ∧ ∀ r, r < (RR (Br w sg (gd_ sg) 0)).length → ∃ j x, X 23 r = nI j ∧ (RR (Br w sg (gd_ sg) 0))[j]? = some x ∧ (sS w sg)[r]? = some x
/-- the readings fit -/
theorem RR_mem {F : List gL} {x : gL} (h : x ∈ RR F) : x ∈ F := by
  unfold RR at h
  rw [List.mem_flatMap] at h
  obtain ⟨y, h1, h2⟩ := h
  rw [(List.mem_replicate.mp h2).2]
  exact h1
def c18_ (x : gL) : Prop := ∀ c ∈ x.1, c ≤ 18
theorem c18_lp {ch f : Nat} {iv : List Nat} {x : gL} (h : c18_ x) (hc : ch ≤ 18) : c18_ (lp_ ch f iv x) := fun c hm => by
  rcases List.mem_cons.mp (show c ∈ ch :: x.1 from hm) with e | e
  · subst e; exact hc
  · exact h c e
theorem fs_18 {s f : Nat} (h : f ∈ fs_ s) : f ≤ 18 := by
  unfold fs_ at h
  split at h
  · simp only [List.mem_cons, List.not_mem_nil, or_false] at h; omega
  · split at h
    · simp only [List.mem_cons, List.not_mem_nil, or_false] at h; omega
    · simp only [List.mem_cons, List.not_mem_nil, or_false] at h; omega
theorem B1_18 {w : ro_w} {sg g : Nat} {row : Nat → List gL} (hr : ∀ q, ∀ x ∈ row q, c18_ x) : ∀ m ts p, ∀ x ∈ B1 w sg g row m ts p, c18_ x := by
  intro m
  induction m with
  | zero =>
    intro ts p x hx
    cases ts with
    | nil => exact hr p x (by unfold B1 at hx; exact hx)
    | cons t r => unfold B1 at hx; cases hx
  | succ m ih =>
    intro ts p x hx
    cases ts with
    | nil => exact hr p x (by unfold B1 at hx; exact hx)
    | cons t r =>
      unfold B1 at hx
      split at hx
      · rw [List.mem_flatMap] at hx
        obtain ⟨f, hf, hx⟩ := hx
        split at hx
        · rw [List.mem_map] at hx
          obtain ⟨y, hy, rfl⟩ := hx
          exact c18_lp (ih _ _ y hy) (fs_18 hf)
        · cases hx
      · split at hx
        · split at hx
          · rw [List.mem_map] at hx
            obtain ⟨y, hy, rfl⟩ := hx
            exact ih _ _ y hy
          · cases hx
        · split at hx
          · split at hx
            · rw [List.mem_map] at hx
              obtain ⟨y, hy, rfl⟩ := hx
              exact ih _ _ y hy
            · cases hx
          · split at hx
            · split at hx
              · rw [List.mem_map] at hx
                obtain ⟨y, hy, rfl⟩ := hx
                exact ih _ _ y hy
              · cases hx
            · split at hx
              · split at hx
                · rw [List.mem_map] at hx
                  obtain ⟨y, hy, rfl⟩ := hx
                  exact ih _ _ y hy
                · exact ih _ _ x hx
              · cases hx
theorem Brf_18 {w : ro_w} {sg g : Nat} : ∀ n p, ∀ x ∈ Brf w sg g n p, c18_ x := by
  intro n
  induction n with
  | zero =>
    intro p x hx
    unfold Brf at hx
    split at hx
    · rw [List.mem_singleton] at hx; subst hx; intro c hc; cases hc
    · cases hx
  | succ n ih =>
    intro p x hx
    unfold Brf at hx
    split at hx
    · rw [List.mem_singleton] at hx; subst hx; intro c hc; cases hc
    · rw [List.mem_flatMap] at hx
      obtain ⟨ch, hc, hx⟩ := hx
      have hc := (List.mem_range'_1.mp hc).2
      split at hx
      · cases hx
      · split at hx
        · rw [List.mem_map] at hx
          obtain ⟨y, hy, rfl⟩ := hx
          exact c18_lp (B1_18 ih _ _ _ y hy) (by omega)
        · cases hx
theorem Br_lk {w : ro_w} {sg : Nat} (hk : rk_ w sg (gd_ sg)) {x : gL} (h : x ∈ Br w sg (gd_ sg) 0) : lk_ x ∧ x.2.1.2.length = w.1 ∧ sn_ x.2.1.1 < 128 ∧ 1 ≤ x.2.2 := by
  have hg : gd_ sg ≤ 6 := by have := hk.2.1; omega
  have h24 := hk.1
  obtain ⟨a1, a2, a3⟩ := Br_okk hg 0 (Nat.zero_le _) x h
  obtain ⟨-, -, b3, b4⟩ := Br_ok2' hg 0 (Nat.zero_le _) x h
  refine ⟨⟨by omega, fun i hi => ?_, by omega⟩, by omega, by omega, a2⟩
  have hm : x.1.getD i 0 ∈ x.1 := by
    rw [List.getD_eq_getElem?_getD, List.getElem?_eq_getElem hi]
    exact List.getElem_mem hi
  have := Brf_18 _ _ x h _ hm
  omega
/-- how many readings, as the class tells it -/
def tot_ (w : ro_w) (sg : Nat) : Nat := if 1000 < (RR (Br w sg (gd_ sg) 0)).length then 1001 else (RR (Br w sg (gd_ sg) 0)).length
/-- what a voice that is not stale knows -/
def vk_ (X : Nat → Nat → Int32) (a : Nat) (w : ro_w) (sg : Nat) : Prop := X a 8 = nI 0 ∧ X a 5 = nI (tot_ w sg) ∧ ∃ u, X a 6 = nI u ∧ fu_ w sg u
/-- a node on the way to a reading -/
def nod_ (X : Nat → Nat → Int32) (w : ro_w) (sg : Nat) (rs : List fR) (x : gL) (φ : fR) : Prop := (∃ t, X 3 10 = nI t ∧ t < φ.2.2.2.2.2 ∧ ct_ X w sg (gd_ sg) φ.1 t) ∧ X 4 6 = nI φ.2.2.2.2.2 ∧ dr_ X φ.2.1 φ.2.2.1 φ.2.2.2.1 ∧ fw_ w sg (gd_ sg) rs.length φ ∧ 1 ≤ φ.2.2.2.2.2 ∧ rm_ w sg (gd_ sg) φ.1 φ.2.2.1.length 0 = Bt w sg (gd_ sg) (Br w sg (gd_ sg)) φ.1 φ.2.2.1.length ∧ (∀ z ∈ (Bt w sg (gd_ sg) (Br w sg (gd_ sg)) φ.1 φ.2.2.1.length).map (pf_ (cso rs) φ), z ∈ Br w sg (gd_ sg) 0) ∧ ∃ y ∈ Bt w sg (gd_ sg) (Br w sg (gd_ sg)) φ.1 φ.2.2.1.length, pf_ (cso rs) φ y = x
