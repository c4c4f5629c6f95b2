/-! the reference holds the state -/
section RIS
def fol_ (s : aS) (F : Nat → Int32) (A : Nat → Nat → Int32) (B : Nat → Nat → Int64) : Prop := F 48 = nI (aNf s) ∧ ∀ f, f < 6 → A 49 f = nI (aFl s f).length ∧ ∀ i e, (aFl s f)[i]? = some e → ∀ w, w < 5 → B 50 (5 * (24 * f + i) + w) = feA e w
/-- a cell of the row that is read holds a kind and a colour -/
def st1 (A : Nat → Nat → Int32) (i : Nat) : Prop := (∃ k, k < 7 ∧ A 17 i = nI k) ∧ ∃ b : Bool, A 18 i = nI (Bool.toNat b)
theorem st1_eq {A A' : Nat → Nat → Int32} {i : Nat} (h7 : A' 17 = A 17) (h8 : A' 18 = A 18) (h : st1 A i) : st1 A' i := by
  unfold st1 at h ⊢
  rw [h7, h8]
  exact h
def wrn_ (s : aS) (F : Nat → Int32) (A : Nat → Nat → Int32) : Prop := F 52 = nI (aNw s) ∧ ∀ i, i < 6 → A 51 i = nI (aWk s i) ∧ st1 A i
def rdy_ (s : aS) (F : Nat → Int32) (A : Nat → Nat → Int32) : Prop := ∃ r : Int, F 42 = Int32.ofInt r ∧ (-1 ≤ r ∧ r < 6) ∧ ∀ v : Nat, r = v → v < aNv s ∧ ∃ N, rc_ F A (aW s v) (aSg s v) (gd_ (aSg s v)) N
def RI (s : aS) (F : Nat → Int32) (A : Nat → Nat → Int32) (B : Nat → Nat → Int64) : Prop := vo_ F A (aNv s) (aSg s) (aSz s) (aUp s) (aDn s) (aPk s) ∧ sy_ A (aSo s) (aKi s) (aPi s) (aCo s) (aUa s) (aDa s) ∧ sk_ F A ∧ rdy_ s F A ∧ fol_ s F A B ∧ wrn_ s F A
variable {F F' : Nat → Int32} {A A' : Nat → Nat → Int32} {B B' : Nat → Nat → Int64} {w : ro_w} {sg g N : Nat} {T I : Nat → Nat} {s : aS}
theorem cx_x (h : cx_at F A w sg g T) (hF : ∀ j, j = 12 ∨ j = 13 ∨ j = 15 → F' j = F j) (hA : ∀ j, 16 ≤ j → j ≤ 39 → A' j = A j) : cx_at F' A' w sg g T := by
  obtain ⟨⟨h1, h2, h3⟩, ⟨h4, h5⟩, ⟨h6, h7⟩, h8, h9⟩ := h
  refine ⟨⟨h1, (hF 15 (by omega)).trans h2, fun i hi => ?_⟩, ⟨(hF 12 (by omega)).trans h4, h5⟩, ⟨(hF 13 (by omega)).trans h6, h7⟩, fun i hi => ?_, h9⟩
  · rw [hA 16 (by decide) (by decide), hA 17 (by decide) (by decide), hA 18 (by decide) (by decide)]; exact h3 i hi
  · rw [hA 19 (by decide) (by decide)]; exact h8 i hi
theorem iw_x (h : iw_at A I) (hA : ∀ j, 16 ≤ j → j ≤ 39 → A' j = A j) : iw_at A' I := fun j hj => by rw [hA 20 (by decide) (by decide)]; exact h j hj
theorem rc_x (h : rc_ F A w sg g N) (hF : ∀ j, j = 12 ∨ j = 13 ∨ j = 15 ∨ j = 40 → F' j = F j) (hA : ∀ j, 16 ≤ j → j ≤ 39 → A' j = A j) : rc_ F' A' w sg g N := by
  obtain ⟨T, I, h1, h2, h3, h4, h5, h6⟩ := h
  refine ⟨T, I, h1, cx_x h2 (fun j hj => hF j (by omega)) hA, iw_x h3 hA, h4, (hF 40 (by omega)).trans h5, fun hN => ?_⟩
  obtain ⟨g1, g2⟩ := h6 hN
  refine ⟨fun q hq => ?_, fun i v hi => ?_⟩
  · obtain ⟨⟨k1, k2, k3, k4⟩, k5⟩ := g1 q hq
    refine ⟨⟨by rw [hA 36 (by decide) (by decide)]; exact k1, by rw [hA 37 (by decide) (by decide)]; exact k2, fun i hi => by rw [hA 35 (by decide) (by decide)]; exact k3 i hi, k4⟩, fun i hi => by rw [hA 38 (by decide) (by decide)]; exact k5 i hi⟩
  · rw [hA 39 (by decide) (by decide)]; exact g2 i v hi
theorem sk_x (h : sk_ F A) (hF : ∀ j, 12 ≤ j → j ≤ 34 → F' j = F j) (hA : ∀ j, 16 ≤ j → j ≤ 39 → A' j = A j) : sk_ F' A' := by
  obtain ⟨w, sg, g, T, I, S, h1, h2, h3, h4, h5, ⟨V, h6⟩⟩ := h
  refine ⟨w, sg, g, T, I, S, cx_x h1 (fun j hj => hF j (by omega) (by omega)) hA, ?_, h3, iw_x h4 hA, (hF 34 (by decide) (by decide)).trans h5, V, fun j hj => by rw [hA 38 (by decide) (by decide)]; exact h6 j hj⟩
  unfold sc_at at h2 ⊢
  rw [hF 21 (by decide) (by decide), hF 22 (by decide) (by decide), hF 23 (by decide) (by decide), hF 24 (by decide) (by decide), hF 25 (by decide) (by decide), hF 26 (by decide) (by decide), hF 27 (by decide) (by decide), hF 28 (by decide) (by decide)]
  exact h2
/-- nothing but scratch has changed: what reading may change, and times -/
theorem RI_rd {v : Nat} (h : RI s F A B) (hv : v < aNv s) (hv6 : aNv s ≤ 6) (hF : rd_F F F') (hA : rd_A A A') (hsk : sk_ F' A') (h42 : F' 42 = nI v) (hrc : rc_ F' A' (aW s v) (aSg s v) (gd_ (aSg s v)) N) (hst : ∀ i, st1 A i → st1 A' i) : RI s F' A' B := by
  obtain ⟨⟨a1, a2⟩, b, c, d, ⟨e1, e2⟩, f1, f2⟩ := h
  refine ⟨⟨⟨(hF 0 (by omega)).trans a1.1, a1.2⟩, fun u hu => ?_⟩, fun j hj => ?_, hsk, ⟨v, by rw [h42]; rfl, ⟨by omega, by omega⟩, fun u hu => ?_⟩, ⟨(hF 48 (by omega)).trans e1, fun f hf => ?_⟩, (hF 52 (by omega)).trans f1, fun i hi => ?_⟩
  · rw [hA 1 (by omega), hA 2 (by omega), hA 3 (by omega), hA 4 (by omega), hA 5 (by omega)]; exact a2 u hu
  · rw [hA 6 (by omega), hA 7 (by omega), hA 8 (by omega), hA 9 (by omega), hA 10 (by omega), hA 11 (by omega)]; exact b j hj
  · have : u = v := by omega
    subst this
    exact ⟨hv, N, hrc⟩
  · rw [hA 49 (by omega)]; exact e2 f hf
  · rw [hA 51 (by omega)]; exact ⟨(f2 i hi).1, hst i (f2 i hi).2⟩
/-- only fields and arrays that say nothing of the state have changed -/
theorem RI_sc (h : RI s F A B) (hF : ∀ j, j ≠ 43 → j ≠ 44 → j ≠ 45 → F' j = F j) (hA : ∀ j, j ≠ 43 → A' j = A j) (hB : ∀ i, B' 50 i = B 50 i) : RI s F' A' B' := by
  obtain ⟨⟨a1, a2⟩, b, c, ⟨r, d1, d2, d3⟩, ⟨e1, e2⟩, f1, f2⟩ := h
  refine ⟨⟨⟨(hF 0 (by decide) (by decide) (by decide)).trans a1.1, a1.2⟩, fun u hu => ?_⟩, fun j hj => ?_, sk_x c (fun j h1 h2 => hF j (by omega) (by omega) (by omega)) (fun j h1 h2 => hA j (by omega)), ⟨r, (hF 42 (by decide) (by decide) (by decide)).trans d1, d2, fun u hu => ?_⟩, ⟨(hF 48 (by decide) (by decide) (by decide)).trans e1, fun f hf => ⟨?_, fun i e he w hw => (hB _).trans ((e2 f hf).2 i e he w hw)⟩⟩, (hF 52 (by decide) (by decide) (by decide)).trans f1, fun i hi => ?_⟩
  · rw [hA 1 (by decide), hA 2 (by decide), hA 3 (by decide), hA 4 (by decide), hA 5 (by decide)]; exact a2 u hu
  · rw [hA 6 (by decide), hA 7 (by decide), hA 8 (by decide), hA 9 (by decide), hA 10 (by decide), hA 11 (by decide)]; exact b j hj
  · obtain ⟨k1, N, k2⟩ := d3 u hu
    exact ⟨k1, N, rc_x k2 (fun j hj => hF j (by omega) (by omega) (by omega)) (fun j h1 h2 => hA j (by omega))⟩
  · rw [hA 49 (by decide)]; exact (e2 f hf).1
  · rw [hA 51 (by decide)]; exact ⟨(f2 i hi).1, st1_eq (hA 17 (by decide)) (hA 18 (by decide)) (f2 i hi).2⟩
end RIS
/-- an int between bounds, as the reference asks it -/
theorem in_I {x : Int32} {lo hi : Int} (h1 : -1000000 ≤ lo ∧ lo ≤ 1000000) (h2 : -1000000 ≤ hi ∧ hi ≤ 1000000) : decide (Int64.ofInt lo ≤ x.toInt64 ∧ x.toInt64 ≤ Int64.ofInt hi) = decide (lo ≤ x.toInt ∧ x.toInt ≤ hi) := by
  have e : ∀ z : Int, -1000000 ≤ z ∧ z ≤ 1000000 → (Int64.ofInt z).toInt = z := fun z hz => by
    rw [Int64.toInt_ofInt]
    exact Int.bmod_eq_of_le (by show -(18446744073709551616 / 2) ≤ z; omega) (by show z < (18446744073709551616 + 1) / 2; omega)
  apply decide_eq_decide.mpr
  rw [Int64.le_iff_toInt_le, Int64.le_iff_toInt_le, Int32.toInt_toInt64, e lo h1, e hi h2]
theorem i64_s {z : Int} (hz : -1000000 ≤ z ∧ z ≤ 1000000) : (Int64.ofInt z).toInt = z := by
  rw [Int64.toInt_ofInt]
  exact Int.bmod_eq_of_le (by show -(18446744073709551616 / 2) ≤ z; omega) (by show z < (18446744073709551616 + 1) / 2; omega)
theorem lN_i2l {k : Nat} (h : k < 2 ^ 31) : lN k = (nI k).toInt64 := by
  apply Int64.toInt_inj.mp
  rw [Int32.toInt_toInt64, nI_toInt h]
  show (Int64.ofNat k).toInt = _
  rw [Int64.toInt_ofNat_of_lt (by omega)]
theorem in_s {n : Nat} (h : n ≤ 1000000) : (nI n - nI 1).toInt64 = Int64.ofInt ((n : Int) - 1) := by
  apply Int64.toInt_inj.mp
  rw [Int32.toInt_toInt64, i64_s (by omega)]
  have e : nI n - nI 1 = Int32.ofInt ((n : Int) - 1) := by rw [Int32.ofInt_sub]; rfl
  rw [e, Int32.toInt_ofInt]
  exact Int.bmod_eq_of_le (by show -(4294967296 / 2) ≤ (n : Int) - 1; omega) (by show (n : Int) - 1 < (4294967296 + 1) / 2; omega)
theorem in_s1 {n : Nat} (h : n ≤ 1000000) (h1 : 1 ≤ n) : lN (n - 1) = Int64.ofInt ((n : Int) - 1) := by
  apply Int64.toInt_inj.mp
  rw [i64_s (by omega)]
  show (Int64.ofNat (n - 1)).toInt = _
  rw [Int64.toInt_ofNat_of_lt (by omega)]
  omega
theorem in_n {n : Nat} (h : n ≤ 1000000) : lN n = Int64.ofInt (n : Int) := by
  apply Int64.toInt_inj.mp
  rw [i64_s (by omega)]
  show (Int64.ofNat n).toInt = _
  rw [Int64.toInt_ofNat_of_lt (by omega)]
theorem in_t {x : Int32} {lo hi : Int64} {a b : Int} (ha : lo = Int64.ofInt a) (hb : hi = Int64.ofInt b) (h1 : -1000000 ≤ a ∧ a ≤ 1000000) (h2 : -1000000 ≤ b ∧ b ≤ 1000000) (h : a ≤ x.toInt ∧ x.toInt ≤ b) : nI (Bool.toNat (decide (lo ≤ x.toInt64 ∧ x.toInt64 ≤ hi))) = nI (Bool.toNat true) := by
  rw [ha, hb, in_I h1 h2, decide_eq_true h]
theorem in_f {x : Int32} {lo hi : Int64} {a b : Int} (ha : lo = Int64.ofInt a) (hb : hi = Int64.ofInt b) (h1 : -1000000 ≤ a ∧ a ≤ 1000000) (h2 : -1000000 ≤ b ∧ b ≤ 1000000) (h : ¬ (a ≤ x.toInt ∧ x.toInt ≤ b)) : nI (Bool.toNat (decide (lo ≤ x.toInt64 ∧ x.toInt64 ≤ hi))) = nI (Bool.toNat false) := by
  rw [ha, hb, in_I h1 h2, decide_eq_false h]
theorem nI_inb {k n : Nat} (h : k < n) (hn : n < 2 ^ 31) : (0 : Int) ≤ (nI k).toInt ∧ (nI k).toInt ≤ (n : Int) - 1 := by
  rw [nI_toInt (by omega)]
  omega
theorem out_in {x : Int32} {n : Nat} (hn : n < 2 ^ 31) (h : x < 0 ∨ nI n ≤ x) : ¬ ((0 : Int) ≤ x.toInt ∧ x.toInt ≤ (n : Int) - 1) := by
  have := i32_out hn h
  omega
