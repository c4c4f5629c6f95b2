/-! Reader: the search -/
theorem nd_3 {w : ro_w} {p : Nat} (hp : p < w.1) (h : ro_dot w p = false) : ¬ w.2.1 p = 3 := fun z => by
  unfold ro_dot at h
  rw [decide_eq_true hp, decide_eq_true z] at h
  cases h
set_option maxRecDepth 100000 in
set_option maxHeartbeats 4000000 in
theorem cR_next {l : Launch} {D : va_G} {aa : Nat → ClassId} {b0 : Nat} {h : mm_H} {o : Nat} {X : Nat → Nat → Int32} {Y : Nat → Nat → Int64} {rl : Option Nat} {w : ro_w} {sg a dt : Nat} {E U P H PL RS CO AL LI : Nat → Nat} {t p last : Nat} {ts : List gK} (ha : cm_at o X Y rl h) (hva : vA a) (hrq : rq_ X w sg a dt E U P H PL RS CO AL LI) (hrk : rk_ w sg (gd_ sg)) (hct : ct_ X w sg (gd_ sg) ts t) (hwf : wf_ (gd_ sg) ts) (hnn : nn_ w ts p) (hp : p < w.1) (hlast : last ≤ 18) (hnd : ts = [] → ro_dot w p = false) : mm_V (zz_K l D aa b0) 2 yX5_nextChoice cX5_nextChoice 12 (some .int) 0 [(0, .ref (o + 3)), (1, .ref (o + a)), (2, .int (nI (t))), (3, .int (nI (p))), (4, .int (nI (last)))] [] h 0 0 (fun rv h' => h' = h ∧ ∃ ch : Nat, rv = some (.int (nI ch)) ∧ ((ch = 0 ∧ ∀ c, last < c → c ∈ cl_ ts → nd_ w sg (gd_ sg) ts p c = []) ∨ (ch ∈ cl_ ts ∧ last < ch ∧ nd_ w sg (gd_ sg) ts p ch ≠ [] ∧ ∀ c, last < c → c < ch → c ∈ cl_ ts → nd_ w sg (gd_ sg) ts p c = []))) := by
  cases ts with
  | nil => exact cR_nextR ha hva hrq hrk hct hwf hp hlast (nd_3 hp (hnd rfl))
  | cons u r =>
    have hnn : u.1 = 1 ∨ u.1 = 2 ∨ u.1 = 3 := hnn
    rcases hnn with hu | hu | hu
    · exact cR_nextU ha hva hrq hrk hct hwf hp hlast hu
    · exact cR_nextP ha hva hrq hrk hct hwf hp hlast hu
    · exact cR_nextT ha hva hrq hrk hct hwf hp hlast hu
set_option maxRecDepth 100000 in
set_option maxHeartbeats 4000000 in
theorem cR_choose {l : Launch} {D : va_G} {aa : Nat → ClassId} {b0 : Nat} {h : mm_H} {o : Nat} {X : Nat → Nat → Int32} {Y : Nat → Nat → Int64} {rl : Option Nat} {w : ro_w} {sg a dt : Nat} {E U P H PL RS CO AL LI : Nat → Nat} {m t k c f ch : Nat} {fs vs : List Nat} {ts : List gK} (ha : cm_at o X Y rl h) (hva : vA a) (hrq : rq_ X w sg a dt E U P H PL RS CO AL LI) (hm : X 4 6 = nI m) (hm8 : m + (ts_ sg k f).length ≤ 128) (htk : X 3 10 = nI t) (hct : ct_ X w sg (gd_ sg) ts t) (htm : t < m) (hdr : dr_ X fs vs c) (hfl : fs.length < 48) (hpv : vs.length + (iv_ sg k f).length ≤ 24) (hk : k ≤ 6) (hch : 1 ≤ ch ∧ ch ≤ 18) (hkf : kf_ w (gd_ sg) ts vs.length ch = some (k, f)) (hh : hd_ w sg (gd_ sg) k f vs.length = true) (hg : (gd_ sg) ≤ k ∨ f = 1 ∨ f = 2 ∨ 15 ≤ f) (hp : vs.length < w.1) (hnd : ts = [] → ro_dot w vs.length = false) (hnn : nn_ w ts vs.length) : mm_V (zz_K l D aa b0) 3 yX5_choose cX5_choose 7 none 0 [(0, .ref (o + 3)), (1, .ref (o + a)), (2, .int (nI (ch)))] [] h 0 0 (fun rv h' => rv = none ∧ ∃ (X' : Nat → Nat → Int32) (t' : Nat), cm_at o X' Y rl h' ∧ cm_fr o h h' ∧ rx_ m fs.length vs.length X X' ∧ X' 3 10 = nI t' ∧ X' 4 6 = nI (m + (ts_ sg k f).length) ∧ t' < m + (ts_ sg k f).length ∧ ct_ X' w sg (gd_ sg) (ts_ sg k f ++ rt_ ts) t' ∧ dr_ X' (fs ++ [f]) (vs ++ iv_ sg k f) c) := by
  cases ts with
  | nil => exact cR_chooseR ha hva hrq hm hm8 htk hct htm hdr hfl hpv hk hch hkf hh hg hp (nd_3 hp (hnd rfl))
  | cons u r => exact cR_chooseT ha hva hrq hm hm8 htk hct htm hdr hfl hpv hk hch hkf hh hg hnn
theorem nd_len {w : ro_w} {sg g : Nat} {ts : List gK} {p ch : Nat} {x : gL} (h : x ∈ nd_ w sg g ts p ch) : 1 ≤ x.1.length := by
  rw [nd_eq] at h
  cases hkf : kf_ w g ts p ch with
  | none => rw [hkf] at h; cases h
  | some kf =>
    rw [hkf] at h
    dsimp only at h
    split at h
    · rw [List.mem_map] at h
      obtain ⟨y, -, rfl⟩ := h
      show 1 ≤ (ch :: y.1).length
      rw [List.length_cons]; omega
    · cases h
theorem rm_len {w : ro_w} {sg g : Nat} {ts : List gK} {p last : Nat} {x : gL} (h : x ∈ rm_ w sg g ts p last) : 1 ≤ x.1.length := by
  unfold rm_ at h
  rw [List.mem_flatMap] at h
  obtain ⟨ch, -, h⟩ := h
  exact nd_len h
/-- a frame is taken up again -/
theorem rs_pack {o : Nat} {X : Nat → Nat → Int32} {Y : Nat → Nat → Int64} {rl : Option Nat} {h : mm_H} {w : ro_w} {sg g d t ch : Nat} {φ : fR} (ha : cm_at o (xu (xu (xu (xu (xu (xu (xu X 3 10 (X 28 d)) 25 4 (X 29 d)) 4 6 (X 31 d)) 25 2 (X 32 d)) 25 3 (X 33 d)) 25 5 (X 34 d)) 30 d (nI ch)) Y rl h) (hfm : fm_ X w sg g d φ) (ht : X 28 d = nI t) : ∃ X2, cm_at o X2 Y rl h ∧ X2 3 10 = nI t ∧ X2 4 6 = nI φ.2.2.2.2.2 ∧ dr_ X2 φ.2.1 φ.2.2.1 φ.2.2.2.1 ∧ X2 30 d = nI ch ∧ ∀ b i, ¬ (b = 3 ∧ i = 10) → ¬ (b = 4 ∧ i = 6) → ¬ (b = 25 ∧ 2 ≤ i ∧ i ≤ 5) → ¬ (b = 30 ∧ i = d) → X2 b i = X b i := by
  obtain ⟨-, ⟨a1, a2, a3, a4, a5, a6⟩, b, c⟩ := hfm
  refine ⟨_, ha, ?_, ?_, ⟨⟨?_, ?_, ?_, ?_⟩, fun i hi => ?_, fun i hi => ?_⟩, xu_s, fun b i n1 n2 n3 n4 => ?_⟩
  · rw [xu_a (by decide), xu_a (by decide), xu_a (by decide), xu_a (by decide), xu_a (by decide), xu_a (by decide), xu_s]; exact ht
  · rw [xu_a (by decide), xu_a (by decide), xu_a (by decide), xu_a (by decide), xu_s]; exact a3
  · rw [xu_a (by decide), xu_i (by decide), xu_i (by decide), xu_s]; exact a4
  · rw [xu_a (by decide), xu_i (by decide), xu_s]; exact a5
  · rw [xu_a (by decide), xu_i (by decide), xu_i (by decide), xu_i (by decide), xu_a (by decide), xu_s]; exact a1
  · rw [xu_a (by decide), xu_s]; exact a6
  · rw [xu_a (by decide), xu_a (by decide), xu_a (by decide), xu_a (by decide), xu_a (by decide), xu_a (by decide), xu_a (by decide)]; exact b i hi
  · rw [xu_a (by decide), xu_a (by decide), xu_a (by decide), xu_a (by decide), xu_a (by decide), xu_a (by decide), xu_a (by decide)]; exact c i hi
  · rw [xu_z n4, xu_z (by omega), xu_z (by omega), xu_z (by omega), xu_z n2, xu_z (by omega), xu_z n1]
/-- a frame is saved -/
theorem sv_pack {o : Nat} {X : Nat → Nat → Int32} {Y : Nat → Nat → Int64} {rl : Option Nat} {h : mm_H} {w : ro_w} {sg g d t m c : Nat} {ts : List gK} {fs vs : List Nat} (ha : cm_at o (xu (xu (xu (xu (xu (xu (xu X 28 d (X 3 10)) 29 d (X 25 4)) 30 d (nI 0)) 31 d (X 4 6)) 32 d (X 25 2)) 33 d (X 25 3)) 34 d (X 25 5)) Y rl h) (ht : X 3 10 = nI t) (htm : t < m) (hct : ct_ X w sg g ts t) (hm : X 4 6 = nI m) (hdr : dr_ X fs vs c) : ∃ X2, cm_at o X2 Y rl h ∧ fm_ X2 w sg g d (ts, fs, vs, c, 0, m) ∧ ∀ b i, ¬ (28 ≤ b ∧ b ≤ 34 ∧ i = d) → X2 b i = X b i := by
  obtain ⟨⟨a1, a2, a3, a4⟩, b, c'⟩ := hdr
  have ex : ∀ b i, ¬ (28 ≤ b ∧ b ≤ 34 ∧ i = d) → xu (xu (xu (xu (xu (xu (xu X 28 d (X 3 10)) 29 d (X 25 4)) 30 d (nI 0)) 31 d (X 4 6)) 32 d (X 25 2)) 33 d (X 25 3)) 34 d (X 25 5) b i = X b i := fun b i n => by
    rw [xu_z (by omega), xu_z (by omega), xu_z (by omega), xu_z (by omega), xu_z (by omega), xu_z (by omega), xu_z (by omega)]
  refine ⟨_, ha, ⟨⟨t, ?_, htm, ct_x hct (fun b i h1 h2 h3 => ex b i (by omega))⟩, ⟨?_, ?_, ?_, ?_, ?_, ?_⟩, fun i hi => (ex _ _ (by omega)).trans (b i hi), fun i hi => (ex _ _ (by omega)).trans (c' i hi)⟩, ex⟩
  · rw [xu_a (by decide), xu_a (by decide), xu_a (by decide), xu_a (by decide), xu_a (by decide), xu_a (by decide), xu_s]; exact ht
  · rw [xu_a (by decide), xu_a (by decide), xu_a (by decide), xu_a (by decide), xu_a (by decide), xu_s]; exact a3
  · rw [xu_a (by decide), xu_a (by decide), xu_a (by decide), xu_a (by decide), xu_s]
  · rw [xu_a (by decide), xu_a (by decide), xu_a (by decide), xu_s]; exact hm
  · rw [xu_a (by decide), xu_a (by decide), xu_s]; exact a1
  · rw [xu_a (by decide), xu_s]; exact a2
  · rw [xu_s]; exact a4
