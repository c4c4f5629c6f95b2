/-! one turn: what comes of a choice -/
section TURN2
variable {w : ro_w} {sg g : Nat}
def nS (w : ro_w) (sg : Nat) (φ : fR) (k f : Nat) : List gK × Nat × gR × Nat := ss_ w (ts_ sg k f ++ rt_ φ.1).length (ts_ sg k f ++ rt_ φ.1) (φ.2.2.1 ++ iv_ sg k f).length
def nf_ (w : ro_w) (sg : Nat) (φ : fR) (k f : Nat) : fR := ((nS w sg φ k f).1, (φ.2.1 ++ [f]) ++ (nS w sg φ k f).2.2.1.1, (φ.2.2.1 ++ iv_ sg k f) ++ (nS w sg φ k f).2.2.1.2, φ.2.2.2.1 * (nS w sg φ k f).2.2.2, 0, φ.2.2.2.2.2 + (ts_ sg k f).length)
theorem turn_s (hk : rk_ w sg g) {φ : fR} {cs : List Nat} {d ch k f : Nat} (hw : fw_ w sg g d φ) (hwt : wf_ g (ts_ sg k f ++ rt_ φ.1)) (hm6 : φ.2.2.2.2.2 + (ts_ sg k f).length ≤ 1 + 2 * (d + 1) + (φ.2.2.1.length + (iv_ sg k f).length) + cn_ (ts_ sg k f ++ rt_ φ.1)) (hlr : lr_ w sg g (ts_ sg k f ++ rt_ φ.1) (φ.2.2.1.length + (iv_ sg k f).length) (φ.2.1.length + 1)) (hnd : nd_ w sg g φ.1 φ.2.2.1.length ch = (Bt w sg g (Br w sg g) (ts_ sg k f ++ rt_ φ.1) (φ.2.2.1.length + (iv_ sg k f).length)).map (lp_ ch f (iv_ sg k f))) (hB : ∀ x ∈ (nd_ w sg g φ.1 φ.2.2.1.length ch).map (pf_ cs φ), x ∈ Br w sg g 0) :
    (nd_ w sg g φ.1 φ.2.2.1.length ch).map (pf_ cs φ) = (Bt w sg g (Br w sg g) (nf_ w sg φ k f).1 (nf_ w sg φ k f).2.2.1.length).map (pf_ (cs ++ [ch]) (nf_ w sg φ k f)) ∧ (nf_ w sg φ k f).2.2.1.length ≤ w.1 ∧ wf_ g (nf_ w sg φ k f).1 ∧ ((nf_ w sg φ k f).1 = [] ∧ (nf_ w sg φ k f).2.2.1.length = w.1 ∧ (nd_ w sg g φ.1 φ.2.2.1.length ch).map (pf_ cs φ) = [(cs ++ [ch], ((nf_ w sg φ k f).2.1, (nf_ w sg φ k f).2.2.1), (nf_ w sg φ k f).2.2.2.1)] ∧ (nf_ w sg φ k f).2.2.2.1 ≤ 4 ^ nd2 w w.1 ∨ (¬ ((nf_ w sg φ k f).1 = [] ∧ (nf_ w sg φ k f).2.2.1.length = w.1)) ∧ fw_ w sg g (d + 1) (nf_ w sg φ k f) ∧ rm_ w sg g (nf_ w sg φ k f).1 (nf_ w sg φ k f).2.2.1.length 0 = Bt w sg g (Br w sg g) (nf_ w sg φ k f).1 (nf_ w sg φ k f).2.2.1.length ∧ Bt w sg g (Br w sg g) (nf_ w sg φ k f).1 (nf_ w sg φ k f).2.2.1.length ≠ []) := by
  obtain ⟨ts, fs, vs, c, last, m⟩ := φ
  obtain ⟨h1, h2, h3, h4, h5, h6, h7⟩ := hw
  have hg : g ≤ 6 := by have := hk.2.1; omega
  have hne := lr_ne hlr
  have hs := ss_ok (w := w) (sg := sg) (g := g) (row := Br w sg g) (ts_ sg k f ++ rt_ ts).length (ts_ sg k f ++ rt_ ts) (vs.length + (iv_ sg k f).length) (Nat.le_refl _) (wf_kk hwt) (wf_s hwt) hne
  have hsw := ss_wf (w := w) (ts_ sg k f ++ rt_ ts).length (ts_ sg k f ++ rt_ ts) (vs.length + (iv_ sg k f).length) hwt
  have hcn := ss_cn (w := w) (ts_ sg k f ++ rt_ ts).length (ts_ sg k f ++ rt_ ts) (vs.length + (iv_ sg k f).length)
  have hcp := ss_cp (w := w) (g := g) (ts_ sg k f ++ rt_ ts).length (ts_ sg k f ++ rt_ ts) (vs.length + (iv_ sg k f).length) c hwt (Nat.le_trans h7 (Nat.pow_le_pow_right (by decide) nd2_mono))
  unfold nf_ nS
  dsimp only at *
  rw [List.length_append (as := vs)]
  generalize ss_ w (ts_ sg k f ++ rt_ ts).length (ts_ sg k f ++ rt_ ts) (vs.length + (iv_ sg k f).length) = S at *
  obtain ⟨S1, p2, ⟨Sf, Sv⟩, Sc⟩ := S
  obtain ⟨a1, a2, a3, a4, a5⟩ := hs
  dsimp only at *
  have hlen : (vs ++ iv_ sg k f ++ Sv).length = p2 := by rw [List.length_append, List.length_append]; exact a5
  rw [hlen]
  have hmap : ∀ y : gL, pf_ cs (ts, fs, vs, c, last, m) (lp_ ch f (iv_ sg k f) (ls_ ((Sf, Sv), Sc) y)) = pf_ (cs ++ [ch]) (S1, fs ++ [f] ++ Sf, vs ++ iv_ sg k f ++ Sv, c * Sc, 0, m + (ts_ sg k f).length) y := by
    intro y
    unfold pf_ lp_ ls_ gc
    simp only [List.append_assoc, List.cons_append, List.nil_append, Nat.mul_assoc]
  have e1 : (nd_ w sg g ts vs.length ch).map (pf_ cs (ts, fs, vs, c, last, m)) = (Bt w sg g (Br w sg g) S1 p2).map (pf_ (cs ++ [ch]) (S1, fs ++ [f] ++ Sf, vs ++ iv_ sg k f ++ Sv, c * Sc, 0, m + (ts_ sg k f).length)) := by
    rw [hnd, a1, List.map_map, List.map_map]
    exact map_eq hmap
  have hlv : ∃ y, y ∈ Bt w sg g (Br w sg g) S1 p2 := by
    cases hz : Bt w sg g (Br w sg g) S1 p2 with
    | nil => rw [hz] at a1; exact absurd a1 hne
    | cons x l => exact ⟨x, List.mem_cons_self⟩
  obtain ⟨y, hy⟩ := hlv
  have hyB := hB _ (by rw [e1]; exact List.mem_map.mpr ⟨y, hy, rfl⟩)
  have o4 := (Br_okk (sg := sg) hg 0 (Nat.zero_le _) _ hyB).1
  have o4 : ((vs ++ iv_ sg k f ++ Sv) ++ y.2.1.2).length + 0 = w.1 := o4
  rw [List.length_append, hlen] at o4
  have hp2 : p2 ≤ w.1 := by omega
  refine ⟨e1, hp2, hsw, ?_⟩
  by_cases hend : S1 = [] ∧ p2 = w.1
  · left
    obtain ⟨b1, b2⟩ := hend
    subst b1
    subst b2
    refine ⟨rfl, rfl, ?_, hcp⟩
    rw [e1]
    show (Br w sg g w.1).map _ = _
    rw [Br_end (Nat.le_refl _)]
    show [pf_ _ _ _] = _
    unfold pf_ gc
    simp
  · right
    have hnn : nn_ w S1 p2 ∧ p2 < w.1 := by
      cases S1 with
      | nil =>
        have : p2 < w.1 := by
          rcases Nat.lt_or_ge p2 w.1 with z | z
          · exact z
          · exact absurd ⟨rfl, by omega⟩ hend
        exact ⟨this, this⟩
      | cons u r' =>
        have b1 : nn_ w (u :: r') p2 := by
          rcases a4 with z | z
          · cases z
          · exact z
        refine ⟨b1, ?_⟩
        have b2 := (Bt_ok2 (Br_ok2' (sg := sg) hg) _ _ a2 hp2 y hy).2.1
        have b3 : cn1 u = 1 := by
          have b1 : u.1 = 1 ∨ u.1 = 2 ∨ u.1 = 3 := b1
          unfold cn1; rw [if_neg (by omega)]
        rw [cn_cons, b3] at b2
        omega
    have hne2 : Bt w sg g (Br w sg g) S1 p2 ≠ [] := fun z => by rw [z] at hy; cases hy
    refine ⟨hend, ⟨hsw, ?_, ?_, fun z => ?_, Nat.zero_le _, ?_, ?_⟩, rm_0 hg a2 hnn.1, hne2⟩
    · show nn_ w S1 (vs ++ iv_ sg k f ++ Sv).length
      rw [hlen]; exact hnn.1
    · show (vs ++ iv_ sg k f ++ Sv).length < w.1
      rw [hlen]; exact hnn.2
    · show ro_dot w (vs ++ iv_ sg k f ++ Sv).length = false
      rw [hlen]
      have z : S1 = [] := z
      subst z
      have := (Bt_live hk a2 hp2).mp hne2
      unfold lvE at this
      rw [gE_nil] at this
      cases hd : ro_dot w p2 with
      | false => rfl
      | true => exact absurd (pR_dot hd) this
    · show m + (ts_ sg k f).length ≤ 1 + 2 * (d + 1) + (vs ++ iv_ sg k f ++ Sv).length + cn_ S1
      rw [hlen]
      omega
    · show c * Sc ≤ 4 ^ nd2 w (vs ++ iv_ sg k f ++ Sv).length
      rw [hlen]; exact hcp
/-- readings, copies written out -/
def RR (F : List gL) : List gL := F.flatMap (fun x => List.replicate x.2.2 x)
theorem RR_app {F : List gL} {x : gL} : RR (F ++ [x]) = RR F ++ List.replicate x.2.2 x := by
  unfold RR
  rw [List.flatMap_append, List.flatMap_cons, List.flatMap_nil, List.append_nil]
theorem RR_len {F : List gL} (h : ∀ x ∈ F, 1 ≤ x.2.2) : F.length ≤ (RR F).length := by
  induction F with
  | nil => exact Nat.zero_le _
  | cons x F ih =>
    have h1 := ih (fun y hy => h y (List.mem_cons_of_mem _ hy))
    have h2 := h x List.mem_cons_self
    show _ ≤ (List.replicate x.2.2 x ++ RR F).length
    rw [List.length_append, List.length_replicate, List.length_cons]
    omega
theorem RR_le {F G : List gL} : (RR F).length ≤ (RR (F ++ G)).length := by
  unfold RR
  rw [List.flatMap_append, List.length_append]
  omega
/-- what a stale voice holds -/
def bo_ (F : List gL) : Option gL := F.foldl (fun b x => some (bs1 b x)) none
theorem bo_app {F : List gL} {x : gL} : bo_ (F ++ [x]) = some (bs1 (bo_ F) x) := by
  unfold bo_
  rw [List.foldl_append]
  rfl
theorem bo_none {F : List gL} : bo_ F = none ↔ F = [] := by
  constructor
  · intro h
    rcases List.eq_nil_or_concat F with e | ⟨G, x, e⟩
    · exact e
    · rw [e, List.concat_eq_append, bo_app] at h; cases h
  · rintro rfl; rfl
theorem bo_mem {F : List gL} : ∀ {y : gL}, bo_ F = some y → y ∈ F := by
  have key : ∀ (F : List gL) (b : Option gL) (y : gL), F.foldl (fun b x => some (bs1 b x)) b = some y → y ∈ F ∨ b = some y := by
    intro F
    induction F with
    | nil => intro b y h; exact Or.inr h
    | cons x F ih =>
      intro b y h
      rcases ih _ y h with h1 | h1
      · exact Or.inl (List.mem_cons_of_mem _ h1)
      · have h1 := Option.some.inj h1
        cases b with
        | none => left; rw [← h1]; exact List.mem_cons_self
        | some z =>
          have h1 : (if sn_ x.2.1.1 < sn_ z.2.1.1 then x else z) = y := h1
          split at h1
          · left; rw [← h1]; exact List.mem_cons_self
          · right; rw [h1]
  intro y h
  rcases key F none y h with h | h
  · exact h
  · cases h
end TURN2
