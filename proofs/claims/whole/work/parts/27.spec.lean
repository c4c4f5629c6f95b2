/-! the tables of ways, filled from the smallest kind on -/
theorem sc_cnt : ∀ (l : List sc_O) (S : sc_S), S.2.1 = -1 → S.1 ≤ 3000 → List.foldl sc_step S l = (min (S.1 + sm_o l) 3000, S.2)
  | [], S, _, h => by
    rw [sm_nil, Nat.add_zero, Nat.min_eq_left h]
    rfl
  | e :: l, S, hw, h => by
    have ht : sc_take S e = S := if_neg (by rintro ⟨-, z, -⟩; rw [hw] at z; omega)
    rw [List.foldl_cons, sm_cons]
    by_cases hn : e.2.2.2.2 = 0
    · rw [show sc_step S e = S from if_pos hn, sc_cnt l S hw h, hn, Nat.zero_add]
    · have hs : sc_step S e = (min (S.1 + e.2.2.2.2) 3000, S.2) := by
        unfold sc_step
        rw [if_neg hn, ht]
      rw [hs, sc_cnt l (min (S.1 + e.2.2.2.2) 3000, S.2) hw (Nat.min_le_right _ _)]
      dsimp only
      congr 1
      omega
def tb_ix (what k a b : Nat) : Nat := (what * 7 + k) * 25 * 25 + 25 * a + b
theorem tb_ix_ne {what k a b what' k' a' b' : Nat} (ha : a < 25) (hb : b < 25) (ha' : a' < 25) (hb' : b' < 25) (hne : what * 7 + k ≠ what' * 7 + k' ∨ a ≠ a' ∨ b ≠ b') : tb_ix what k a b ≠ tb_ix what' k' a' b' := by
  intro e
  have e1 : tb_ix what k a b % 25 = b := by unfold tb_ix; omega
  have e2 : tb_ix what' k' a' b' % 25 = b' := by unfold tb_ix; omega
  have e3 : tb_ix what k a b / 25 % 25 = a := by unfold tb_ix; omega
  have e4 : tb_ix what' k' a' b' / 25 % 25 = a' := by unfold tb_ix; omega
  have e5 : tb_ix what k a b / 625 = what * 7 + k := by unfold tb_ix; omega
  have e6 : tb_ix what' k' a' b' / 625 = what' * 7 + k' := by unfold tb_ix; omega
  rw [e] at e1 e3 e5
  omega
/-- kind k's ways from a to b are as the scans count them -/
def tb_d (w : ro_w) (sg : Nat) (T : Nat → Nat) (k a b : Nat) : Prop := T (tb_ix 0 k a b) = min (sm_o (sp_unit w sg T k a b)) 3000 ∧ T (tb_ix 1 k a b) = min (sm_o (sp_pair w sg T k a b)) 3000
def tb_dg (T : Nat → Nat) : Prop := ∀ what k a : Nat, what < 2 → k < 7 → a < 25 → T (tb_ix what k a a) = 0
/-- same ways at kind k + 1: same offers at kind k -/
theorem sp_congr {w : ro_w} {sg : Nat} {T T' : Nat → Nat} {k : Nat} (h : ∀ what x y : Nat, what < 2 → tb_w T' what (k + 1) x y = tb_w T what (k + 1) x y) (a b : Nat) : sp_unit w sg T' k a b = sp_unit w sg T k a b ∧ sp_pair w sg T' k a b = sp_pair w sg T k a b := by
  have h0 : ∀ x y : Nat, tb_w T' 0 (k + 1) x y = tb_w T 0 (k + 1) x y := fun x y => h 0 x y (by decide)
  have h1 : ∀ x y : Nat, tb_w T' 1 (k + 1) x y = tb_w T 1 (k + 1) x y := fun x y => h 1 x y (by decide)
  have h6 : ∀ dot a b m, sp_6 T' k a b dot m = sp_6 T k a b dot m := fun dot a b m => by funext p; unfold sp_6; simp only [h0, h1]
  have h10 : ∀ dot a b, sp_10 T' k a b dot = sp_10 T k a b dot := fun dot a b => by funext p; unfold sp_10; simp only [h0, h1]
  have h11 : ∀ dot a b, sp_11 T' k a b dot = sp_11 T k a b dot := fun dot a b => by funext p; unfold sp_11; simp only [h0, h1]
  have h4 : ∀ a b, sp_4 T' k a b = sp_4 T k a b := fun a b => by funext p; unfold sp_4; simp only [h0, h1]
  have hp : ∀ dot a b, sp_per w T' k a b dot = sp_per w T k a b dot := fun dot a b => by unfold sp_per sp_p6 sp_p7 sp_p8 sp_p9; simp only [h0, h1, h6, h10, h11]
  constructor
  · unfold sp_unit; simp only [h0, h1, h4, hp]
  · unfold sp_pair; simp only [h0, h1]
theorem tb_w_ix {T : Nat → Nat} {what k a b : Nat} : tb_w T what k a b = if 6 < k ∨ b < a ∨ 24 < b then 0 else T (tb_ix what k a b) := rfl
/-- another entry of kind k changes nothing at kinds from k on that is said of other entries -/
theorem tb_d_up {w : ro_w} {sg : Nat} {T : Nat → Nat} {k k' a b a' b' what v : Nat} (hk : k ≤ k') (hk' : k' < 7) (hw : what < 2) (ha : a < 25) (hb : b < 25) (ha' : a' < 25) (hb' : b' < 25) (hne : k' ≠ k ∨ a' ≠ a ∨ b' ≠ b) (h : tb_d w sg T k' a' b') : tb_d w sg (rm_up T (tb_ix what k a b) v) k' a' b' := by
  have hc : ∀ what' x y : Nat, what' < 2 → tb_w (rm_up T (tb_ix what k a b) v) what' (k' + 1) x y = tb_w T what' (k' + 1) x y := by
    intro what' x y hw'
    rw [tb_w_ix, tb_w_ix]
    split
    · rfl
    · by_cases hx : tb_ix what' (k' + 1) x y = tb_ix what k a b
      · exact absurd hx (tb_ix_ne (by omega) (by omega) (by omega) (by omega) (by omega))
      · rw [rm_up_n hx]
  obtain ⟨e1, e2⟩ := sp_congr (w := w) (sg := sg) hc a' b'
  unfold tb_d
  rw [e1, e2, rm_up_n (tb_ix_ne (by omega) (by omega) (by omega) (by omega) (by omega)), rm_up_n (tb_ix_ne (by omega) (by omega) (by omega) (by omega) (by omega))]
  exact h
/-- all kinds from k on -/
def tb_ok (w : ro_w) (sg : Nat) (T : Nat → Nat) (k : Nat) : Prop := ∀ k' a b : Nat, k ≤ k' → k' < 7 → a < b → b ≤ w.1 → tb_d w sg T k' a b
/-- of kind k all pairs of places before (a, b), pairs by pairs -/
def tb_pt (w : ro_w) (sg : Nat) (T : Nat → Nat) (k a b : Nat) : Prop := ∀ a' b' : Nat, (a' < a ∨ a' = a ∧ b' < b) → a' < b' → b' ≤ w.1 → tb_d w sg T k a' b'
theorem tb_at_up {A : Nat → Nat → Int32} {T : Nat → Nat} (ht : tb_at A T) {i v : Nat} (hv : v ≤ 3000) : tb_at (rm_up A 19 (upd (A 19) i (nI v))) (rm_up T i v) := by
  intro j hj
  rw [rm_up_s]
  by_cases hji : j = i
  · subst hji
    rw [pk_us, rm_up_s]
    exact ⟨rfl, hv⟩
  · rw [pk_un hji, rm_up_n hji]
    exact ht j hj
theorem tb_dg_up {T : Nat → Nat} (hd : tb_dg T) {what k a b v : Nat} (hw : what < 2) (hk : k < 7) (ha : a < 25) (hb : b < 25) (hab : a < b) : tb_dg (rm_up T (tb_ix what k a b) v) := by
  intro what' k' a' h1 h2 h3
  rw [rm_up_n (tb_ix_ne (by omega) (by omega) (by omega) (by omega) (by omega))]
  exact hd what' k' a' h1 h2 h3
theorem sp_up {w : ro_w} {sg : Nat} {T : Nat → Nat} {what k a b v : Nat} (hw : what < 2) (hk : k < 7) (ha : a < 25) (hb : b < 25) (x y : Nat) : sp_unit w sg (rm_up T (tb_ix what k a b) v) k x y = sp_unit w sg T k x y ∧ sp_pair w sg (rm_up T (tb_ix what k a b) v) k x y = sp_pair w sg T k x y := by
  apply sp_congr
  intro what' x y hw'
  rw [tb_w_ix, tb_w_ix]
  split
  · rfl
  · rw [rm_up_n (tb_ix_ne (by omega) (by omega) (by omega) (by omega) (by omega))]
/-- the item ways -/
def iw_at (A : Nat → Nat → Int32) (I : Nat → Nat) : Prop := ∀ j : Nat, j < 25 → A 20 j = nI (I j) ∧ I j ≤ 3000
def iw_s (w : ro_w) (g : Nat) (T I : Nat → Nat) (a : Nat) : Nat → Nat → Nat
  | 0, _ => 0
  | f + 1, b => ct_it w g T a b * I b + iw_s w g T I a f (b + 1)
def iw_d (w : ro_w) (g : Nat) (T I : Nat → Nat) (a : Nat) : Prop := I a = min (iw_s w g T I a (w.1 - a) (a + 1)) 3000
def iw_ok (w : ro_w) (g : Nat) (T I : Nat → Nat) (a : Nat) : Prop := I w.1 = 1 ∧ ∀ a' : Nat, a ≤ a' → a' < w.1 → iw_d w g T I a'
theorem iw_s_up {w : ro_w} {g : Nat} {T I : Nat → Nat} {a i v : Nat} : ∀ (f b : Nat), i < b → iw_s w g T (rm_up I i v) a f b = iw_s w g T I a f b
  | 0, _, _ => rfl
  | f + 1, b, h => by
    show _ * rm_up I i v b + iw_s w g T (rm_up I i v) a f (b + 1) = _ * I b + iw_s w g T I a f (b + 1)
    rw [rm_up_n (by omega), iw_s_up f (b + 1) (by omega)]
theorem iw_at_up {A : Nat → Nat → Int32} {I : Nat → Nat} (h : iw_at A I) {i v : Nat} (hv : v ≤ 3000) : iw_at (rm_up A 20 (upd (A 20) i (nI v))) (rm_up I i v) := by
  intro j hj
  rw [rm_up_s]
  by_cases hji : j = i
  · subst hji
    rw [pk_us, rm_up_s]
    exact ⟨rfl, hv⟩
  · rw [pk_un hji, rm_up_n hji]
    exact h j hj
theorem iw_ok_up {w : ro_w} {g : Nat} {T I : Nat → Nat} {a : Nat} (h : iw_ok w g T I (a + 1)) (ha : a < w.1) : iw_ok w g T (rm_up I a (min (iw_s w g T I a (w.1 - a) (a + 1)) 3000)) a := by
  refine ⟨by rw [rm_up_n (by omega)]; exact h.1, fun a' h1 h2 => ?_⟩
  unfold iw_d
  rcases Nat.lt_or_ge a a' with q | q
  · rw [rm_up_n (by omega), iw_s_up _ _ (by omega)]
    exact h.2 a' q h2
  · have e : a' = a := by omega
    subst e
    rw [rm_up_s, iw_s_up _ _ (by omega)]
theorem ct_it_le {w : ro_w} {g : Nat} {T : Nat → Nat} {a b : Nat} : ct_it w g T a b ≤ 3000 := Nat.min_le_right _ _
