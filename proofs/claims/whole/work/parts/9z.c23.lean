/-! Follower -/
set_option maxRecDepth 100000 in
set_option maxHeartbeats 4000000 in
theorem cw_append {l : Launch} {D : va_G} {aa : Nat → ClassId} {b0 : Nat} {h : mm_H} {o : Nat} {X : Nat → Nat → Int32} {Y : Nat → Nat → Int64} {rl : Option Nat} {b n : Nat} {p : Int32} (ha : cm_at o X Y rl h) (hfb : fA b) (hn : X b 7 = nI n) (hn24 : n < 24) : mm_V (zz_K l D aa b0) 0 yX2_append cX2_append 2 none 0 [(0, .ref (o + b)), (1, .int (p))] [] h 0 0 (fun rv h' => rv = none ∧ cm_at o (xu (xu X (b + 1) n p) b 7 (nI (n + 1))) (xu (xu (xu (xu Y (b + 2) n (Y (b + 6) 0)) (b + 3) n (Y (b + 6) 1)) (b + 4) n (Y (b + 7) 0)) (b + 5) n (Y (b + 7) 1)) rl h' ∧ cm_fr o h h') := by
  have hf := cm_fr.rf (o := o) (h := h)
  refine mm_aload_n dX2_append_0 rfl 0 rfl ?_
  refine cm_getI dX2_append_1 ha zr_X2_78 (fA_lt hfb 0 (by decide)) (fA_0 hfb) rfl ?_
  refine mn_top (u := .int (nI (n))) (congrArg Value.int ((hn))) ?_
  refine mn_if_lt (tgt := 16) dX2_append_4 (by decide) (by omega) ?_
  refine mm_aload_n dX2_append_7 rfl 0 rfl ?_
  refine cm_getI dX2_append_8 ha zr_X2_78 (fA_lt hfb 0 (by decide)) (fA_0 hfb) rfl ?_
  refine mn_top (u := .int (nI (n))) (congrArg Value.int ((hn))) ?_
  refine mm_bipush (v := nI 24) dX2_append_11 (by decide) ?_
  refine mn_icmp_lt (tgt := 17) dX2_append_13 (by decide) (by omega) (by omega) (fun c13 => ?_) (fun c13 => ?_)
  · refine mm_aload_n dX2_append_17 rfl 0 rfl ?_
    refine cm_getR (b := b + 1) dX2_append_18 ha zr_X2_9 (fA_lt hfb 0 (by decide)) (fA_0 hfb) rfl rfl ?_
    refine mm_aload_n dX2_append_21 rfl 0 rfl ?_
    refine cm_getI dX2_append_22 ha zr_X2_78 (fA_lt hfb 0 (by decide)) (fA_0 hfb) rfl ?_
    refine mn_top (u := .int (nI (n))) (congrArg Value.int ((hn))) ?_
    refine mm_iload_n dX2_append_25 rfl 1 rfl ?_
    refine cm_iast (i := n) dX2_append_26 ha hf (fA_lt hfb 1 (by decide)) (fA_1 hfb) (by omega) (by decide) (fun h ha hf => ?_)
    refine mm_aload_n dX2_append_27 rfl 0 rfl ?_
    refine cm_getR (b := b + 2) dX2_append_28 ha zr_X2_15 (fA_lt hfb 0 (by decide)) (fA_0 hfb) rfl rfl ?_
    refine mm_aload_n dX2_append_31 rfl 0 rfl ?_
    refine cm_getI dX2_append_32 ha zr_X2_78 (fA_lt hfb 0 (by decide)) (fA_0 hfb) rfl ?_
    refine mn_top (u := .int (nI (n))) (congrArg Value.int (Eq.trans (xu_a (by omega)) ((hn)))) ?_
    refine mm_aload_n dX2_append_35 rfl 0 rfl ?_
    refine cm_getR (b := b + 6) dX2_append_36 ha zr_X2_31 (fA_lt hfb 0 (by decide)) (fA_0 hfb) rfl rfl ?_
    refine cm_getJ dX2_append_39 ha zr_X2_79 (fA_lt hfb 6 (by decide)) (fA_6 hfb) rfl ?_
    refine mn_top (u := .long (Y (b + 6) 0)) (congrArg Value.long ((rfl))) ?_
    refine cm_jast (i := n) dX2_append_42 ha hf (fA_lt hfb 2 (by decide)) (fA_2 hfb) (by omega) (by decide) (fun h ha hf => ?_)
    refine mm_aload_n dX2_append_43 rfl 0 rfl ?_
    refine cm_getR (b := b + 3) dX2_append_44 ha zr_X2_19 (fA_lt hfb 0 (by decide)) (fA_0 hfb) rfl rfl ?_
    refine mm_aload_n dX2_append_47 rfl 0 rfl ?_
    refine cm_getI dX2_append_48 ha zr_X2_78 (fA_lt hfb 0 (by decide)) (fA_0 hfb) rfl ?_
    refine mn_top (u := .int (nI (n))) (congrArg Value.int (Eq.trans (xu_a (by omega)) ((hn)))) ?_
    refine mm_aload_n dX2_append_51 rfl 0 rfl ?_
    refine cm_getR (b := b + 6) dX2_append_52 ha zr_X2_31 (fA_lt hfb 0 (by decide)) (fA_0 hfb) rfl rfl ?_
    refine cm_getJ dX2_append_55 ha zr_X2_83 (fA_lt hfb 6 (by decide)) (fA_6 hfb) rfl ?_
    refine mn_top (u := .long (Y (b + 6) 1)) (congrArg Value.long (Eq.trans (xu_a (by omega)) ((rfl)))) ?_
    refine cm_jast (i := n) dX2_append_58 ha hf (fA_lt hfb 3 (by decide)) (fA_3 hfb) (by omega) (by decide) (fun h ha hf => ?_)
    refine mm_aload_n dX2_append_59 rfl 0 rfl ?_
    refine cm_getR (b := b + 4) dX2_append_60 ha zr_X2_22 (fA_lt hfb 0 (by decide)) (fA_0 hfb) rfl rfl ?_
    refine mm_aload_n dX2_append_63 rfl 0 rfl ?_
    refine cm_getI dX2_append_64 ha zr_X2_78 (fA_lt hfb 0 (by decide)) (fA_0 hfb) rfl ?_
    refine mn_top (u := .int (nI (n))) (congrArg Value.int (Eq.trans (xu_a (by omega)) ((hn)))) ?_
    refine mm_aload_n dX2_append_67 rfl 0 rfl ?_
    refine cm_getR (b := b + 7) dX2_append_68 ha zr_X2_35 (fA_lt hfb 0 (by decide)) (fA_0 hfb) rfl rfl ?_
    refine cm_getJ dX2_append_71 ha zr_X2_79 (fA_lt hfb 7 (by decide)) (fA_7 hfb) rfl ?_
    refine mn_top (u := .long (Y (b + 7) 0)) (congrArg Value.long (Eq.trans (xu_a (by omega)) (Eq.trans (xu_a (by omega)) ((rfl))))) ?_
    refine cm_jast (i := n) dX2_append_74 ha hf (fA_lt hfb 4 (by decide)) (fA_4 hfb) (by omega) (by decide) (fun h ha hf => ?_)
    refine mm_aload_n dX2_append_75 rfl 0 rfl ?_
    refine cm_getR (b := b + 5) dX2_append_76 ha zr_X2_25 (fA_lt hfb 0 (by decide)) (fA_0 hfb) rfl rfl ?_
    refine mm_aload_n dX2_append_79 rfl 0 rfl ?_
    refine cm_getI dX2_append_80 ha zr_X2_78 (fA_lt hfb 0 (by decide)) (fA_0 hfb) rfl ?_
    refine mn_top (u := .int (nI (n))) (congrArg Value.int (Eq.trans (xu_a (by omega)) ((hn)))) ?_
    refine mm_aload_n dX2_append_83 rfl 0 rfl ?_
    refine cm_getR (b := b + 7) dX2_append_84 ha zr_X2_35 (fA_lt hfb 0 (by decide)) (fA_0 hfb) rfl rfl ?_
    refine cm_getJ dX2_append_87 ha zr_X2_83 (fA_lt hfb 7 (by decide)) (fA_7 hfb) rfl ?_
    refine mn_top (u := .long (Y (b + 7) 1)) (congrArg Value.long (Eq.trans (xu_a (by omega)) (Eq.trans (xu_a (by omega)) (Eq.trans (xu_a (by omega)) ((rfl)))))) ?_
    refine cm_jast (i := n) dX2_append_90 ha hf (fA_lt hfb 5 (by decide)) (fA_5 hfb) (by omega) (by decide) (fun h ha hf => ?_)
    refine mm_aload_n dX2_append_91 rfl 0 rfl ?_
    refine mm_dup dX2_append_92 rfl ?_
    refine cm_getI dX2_append_93 ha zr_X2_78 (fA_lt hfb 0 (by decide)) (fA_0 hfb) rfl ?_
    refine mn_top (u := .int (nI (n))) (congrArg Value.int (Eq.trans (xu_a (by omega)) ((hn)))) ?_
    refine mm_iconst (v := nI 1) dX2_append_96 (by decide) ?_
    refine mn_iadd dX2_append_97 ?_
    refine cm_putI dX2_append_98 ha hf zp_X2_78 (fA_lt hfb 0 (by decide)) (fA_0 hfb) rfl rfl rfl (fun h ha hf => ?_)
    exact mm_vret dX2_append_101 rfl (⟨rfl, ha, hf⟩)
  · omega
set_option maxRecDepth 100000 in
set_option maxHeartbeats 4000000 in
theorem cw_follow {l : Launch} {D : va_G} {aa : Nat → ClassId} {b0 : Nat} {h : mm_H} {o : Nat} {X : Nat → Nat → Int32} {Y : Nat → Nat → Int64} {rl : Option Nat} {b v n how bh : Nat} {hg : Int} {so V ua da : Nat → Nat} {pi : Nat → Int} (ha : cm_at o X Y rl h) (hfb : fA b) (hva : vA v) (h0 : X b 7 = nI 0) (hn : X (v + 3) 6 = nI n) (hn24 : n ≤ 24) (hhow : how < 8) (hbh : bh ≤ 100000) (hsrt : ∀ i, i < n → X (v + 4) i = nI (so i) ∧ so i ≤ 3 ∧ (so i = 1 → X (v + 6) i = Int32.ofInt (pi i))) (hti : ∀ i, i < n → X (v + 2) i = nI (V i)) (hup : ∀ i, i < n → X (v + 8) i = nI (ua i)) (hdn : ∀ i, i < n → X (v + 9) i = nI (da i)) (hsz : sz_ V ua da n) (hu1000 : ∀ i, i < n → ua i ≤ 1000) : mm_V (zz_K l D aa b0) 3 yX2_follow cX2_follow 13 none 0 [(0, .ref (o + b)), (1, .ref (o + v)), (2, .int (nI (how))), (3, .int (nI (bh))), (4, .int (Int32.ofInt hg))] [] h 0 0 (fun rv h' => rv = none ∧ ∃ (X' : Nat → Nat → Int32) (Y' : Nat → Nat → Int64), cm_at o X' Y' rl h' ∧ cm_fr o h h' ∧ (∀ c i, ¬ (c = b ∧ i = 7) → c ≠ b + 1 → X' c i = X c i) ∧ (∀ c i, ¬ (b + 2 ≤ c ∧ c ≤ b + 7) → Y' c i = Y c i) ∧ flw_ X' Y' b (fwst_ so pi V ua da n how bh hg n).1) := by
  have hf := cm_fr.rf (o := o) (h := h)
  have hge := vA_ge hva
  have hfb2 : 121 ≤ b := by obtain ⟨i, _, h⟩ := hfb; omega
  have hva2 : v + 9 < 121 := by rcases hva with h | ⟨i, hi, h⟩ <;> omega
  have lp : ∀ (m j : Nat) (X1 : Nat → Nat → Int32) (Y1 : Nat → Nat → Int64) (h1 : mm_H), j + m = n → (∀ c i, ¬ (c = b ∧ i = 7) → c ≠ b + 1 → X1 c i = X c i) → (∀ c i, ¬ (b + 2 ≤ c ∧ c ≤ b + 7) → Y1 c i = Y c i) → flw_ X1 Y1 b (fwst_ so pi V ua da n how bh hg j).1 → Y1 (b + 6) 0 = lN (fwst_ so pi V ua da n how bh hg j).2.1.1 → Y1 (b + 6) 1 = lN (fwst_ so pi V ua da n how bh hg j).2.1.2 → cm_at o X1 Y1 rl h1 → cm_fr o h h1 → mm_V (zz_K l D aa b0) 3 yX2_follow cX2_follow 13 none 19 [(7, .int (nI (j))), (6, .int (Int32.ofInt ((fwst_ so pi V ua da n how bh hg j).2.2.getD 0))), (5, .int (nI (Bool.toNat ((fwst_ so pi V ua da n how bh hg j).2.2.isSome)))), (0, .ref (o + b)), (1, .ref (o + v)), (2, .int (nI (how))), (3, .int (nI (bh))), (4, .int (Int32.ofInt hg))] [] h1 0 0 (fun rv h' => rv = none ∧ ∃ (X' : Nat → Nat → Int32) (Y' : Nat → Nat → Int64), cm_at o X' Y' rl h' ∧ cm_fr o h h' ∧ (∀ c i, ¬ (c = b ∧ i = 7) → c ≠ b + 1 → X' c i = X c i) ∧ (∀ c i, ¬ (b + 2 ≤ c ∧ c ≤ b + 7) → Y' c i = Y c i) ∧ flw_ X' Y' b (fwst_ so pi V ua da n how bh hg n).1) := by
    intro m
    induction m with
    | zero =>
      intro j X1 Y1 h1 hj hfx hfy hfl ht1 ht2 ha hf
      refine mm_iload dX2_follow_19 0 rfl ?_
      refine mm_aload_n dX2_follow_21 rfl 4 rfl ?_
      refine cm_getR (b := v + 3) dX2_follow_22 ha zr_X2_42 (vA_lt hva 0 (by decide)) (vA_0 hva) rfl rfl ?_
      refine cm_getI dX2_follow_25 ha zr_X2_48 (vA_lt hva 3 (by decide)) (vA_3 hva) rfl ?_
      refine mn_top (u := .int (nI (n))) (congrArg Value.int (((hfx _ _ (by omega) (by omega)).trans hn))) ?_
      refine mn_icmp_ge (tgt := 229) dX2_follow_28 (by decide) (by omega) (by omega) (fun c28 => ?_) (fun c28 => ?_)
      · have e : j = n := by omega
        subst e
        exact mm_vret dX2_follow_229 rfl (⟨rfl, X1, Y1, ha, hf, hfx, hfy, hfl⟩)
      · omega
    | succ m ih =>
      intro j X1 Y1 h1 hj hfx hfy hfl ht1 ht2 ha hf
      obtain ⟨hk1, hk2⟩ := fwk_ (so := so) (pi := pi) (how := how) (higher := hg) hbh hsz j (by omega)
      have hil := fwlt_ (how := how) (show j < n by omega)
      have hstp : (fwst_ so pi V ua da n how bh hg (j + 1)) = if so (fwi_ how n j) = 3 then (fwst_ so pi V ua da n how bh hg j) else ((fwst_ so pi V ua da n how bh hg j).1 ++ [(if so (fwi_ how n j) = 1 then fwh_ how pi (fwv_ so pi (fwst_ so pi V ua da n how bh hg j) (fwi_ how n j)) (fwi_ how n j) + hg else 1000, (fwst_ so pi V ua da n how bh hg j).2.1, red (fwp_ how V da (fwi_ how n j)) (ua (fwi_ how n j)))], tAd (fwst_ so pi V ua da n how bh hg j).2.1 (fwp_ how V da (fwi_ how n j)) (ua (fwi_ how n j)), fwv_ so pi (fwst_ so pi V ua da n how bh hg j) (fwi_ how n j)) := rfl
      obtain ⟨hV, ⟨hu0, hud⟩, hda⟩ := hsz _ hil
      have hul := hu1000 _ hil
      have hB := fwB_ hsz hil (how := how)
      have hBv := sz_B hsz hil
      have hin : fwi_ how n j < 24 := by omega
      have hso := hsrt _ hil
      have j5 : ∀ (lg : Nat) (tr pt : Int32), so (fwi_ how n j) ≠ 3 → lg = (if how / 4 % 2 = 1 then 2 else 1) → (so (fwi_ how n j) = 1 → tr = Int32.ofInt (fwh_ how pi (fwv_ so pi (fwst_ so pi V ua da n how bh hg j) (fwi_ how n j)) (fwi_ how n j))) → mm_V (zz_K l D aa b0) 3 yX2_follow cX2_follow 13 none 153 [(12, .int (nI (lg))), (11, .int (tr)), (10, .int (nI (Bool.toNat (decide (so (fwi_ how n j) = 1))))), (9, .int (pt)), (8, .int (nI (fwi_ how n j))), (7, .int (nI (j))), (6, .int (Int32.ofInt ((fwv_ so pi (fwst_ so pi V ua da n how bh hg j) (fwi_ how n j)).getD 0))), (5, .int (nI (Bool.toNat ((fwv_ so pi (fwst_ so pi V ua da n how bh hg j) (fwi_ how n j)).isSome)))), (0, .ref (o + b)), (1, .ref (o + v)), (2, .int (nI (how))), (3, .int (nI (bh))), (4, .int (Int32.ofInt hg))] [] h1 0 0 (fun rv h' => rv = none ∧ ∃ (X' : Nat → Nat → Int32) (Y' : Nat → Nat → Int64), cm_at o X' Y' rl h' ∧ cm_fr o h h' ∧ (∀ c i, ¬ (c = b ∧ i = 7) → c ≠ b + 1 → X' c i = X c i) ∧ (∀ c i, ¬ (b + 2 ≤ c ∧ c ≤ b + 7) → Y' c i = Y c i) ∧ flw_ X' Y' b (fwst_ so pi V ua da n how bh hg n).1) := by
        intro lg tr pt hn3 hlg htr
        rw [if_neg hn3] at hstp
        have hpp : V (fwi_ how n j) * da (fwi_ how n j) * lg = fwp_ how V da (fwi_ how n j) := by rw [hlg]; rfl
        have hlg2 : lg ≤ 2 := by rw [hlg]; split <;> omega
        refine mm_aload_n dX2_follow_153 rfl 8 rfl ?_
        refine cm_getR (b := b + 7) dX2_follow_154 ha zr_X2_35 (fA_lt hfb 0 (by decide)) (fA_0 hfb) rfl rfl ?_
        refine mm_aload_n dX2_follow_157 rfl 9 rfl ?_
        refine mm_iload dX2_follow_158 4 rfl ?_
        refine cm_callVr (As := [.int (nI (fwi_ how n j))]) (rest := [.ref (o + (b + 7))]) (d2 := 0) dX2_follow_160 ha (vA_lt hva 0 (by decide)) (vA_0 hva) zz_clX9 zc_X2_61 zs_X9_ticksAt rfl rfl (Nat.le_of_ble_eq_true rfl) (Nat.le_of_ble_eq_true rfl) (by decide) (cv_ticksAt ha hva (by omega)) ?_
        refine mn_top (u := .int (nI (V (fwi_ how n j)))) (congrArg Value.int (by rw [if_pos hin]; exact (hfx _ _ (by omega) (by omega)).trans (hti _ hil))) ?_
        refine mn_i2l dX2_follow_163 (by omega) ?_
        refine mm_aload_n dX2_follow_164 rfl 9 rfl ?_
        refine cm_getR (b := v + 3) dX2_follow_165 ha zr_X2_42 (vA_lt hva 0 (by decide)) (vA_0 hva) rfl rfl ?_
        refine mm_iload dX2_follow_168 4 rfl ?_
        refine cm_callVr (As := [.int (nI (fwi_ how n j))]) (rest := [.long (lN (V (fwi_ how n j))), .ref (o + (b + 7))]) (d2 := 0) dX2_follow_170 ha (vA_lt hva 3 (by decide)) (vA_3 hva) zz_clX6 zc_X2_64 zs_X6_downAt rfl rfl (Nat.le_of_ble_eq_true rfl) (Nat.le_of_ble_eq_true rfl) (by decide) (cr_downAt ha (vr_A hva) ((hfx _ _ (by omega) (by omega)).trans hn) hn24 (by omega)) ?_
        refine mn_top (u := .int (nI (da (fwi_ how n j)))) (congrArg Value.int (by rw [if_pos hil]; exact (hfx _ _ (by omega) (by omega)).trans (hdn _ hil))) ?_
        refine mn_i2l dX2_follow_173 (by omega) ?_
        refine mn_lmul dX2_follow_174 ?_
        refine mm_iload dX2_follow_175 0 rfl ?_
        refine mn_i2l dX2_follow_177 (by omega) ?_
        refine mn_lmul dX2_follow_178 ?_
        refine mm_aload_n dX2_follow_179 rfl 9 rfl ?_
        refine cm_getR (b := v + 3) dX2_follow_180 ha zr_X2_42 (vA_lt hva 0 (by decide)) (vA_0 hva) rfl rfl ?_
        refine mm_iload dX2_follow_183 4 rfl ?_
        refine cm_callVr (As := [.int (nI (fwi_ how n j))]) (rest := [.long (lN (((V (fwi_ how n j)) * (da (fwi_ how n j))) * (lg))), .ref (o + (b + 7))]) (d2 := 0) dX2_follow_185 ha (vA_lt hva 3 (by decide)) (vA_3 hva) zz_clX6 zc_X2_67 zs_X6_upAt rfl rfl (Nat.le_of_ble_eq_true rfl) (Nat.le_of_ble_eq_true rfl) (by decide) (cr_upAt ha (vr_A hva) ((hfx _ _ (by omega) (by omega)).trans hn) hn24 (by omega)) ?_
        refine mn_top (u := .int (nI (ua (fwi_ how n j)))) (congrArg Value.int (by rw [if_pos hil]; exact (hfx _ _ (by omega) (by omega)).trans (hup _ hil))) ?_
        refine mn_i2l dX2_follow_188 (by omega) ?_
        have hpe : ((V (fwi_ how n j)) * (da (fwi_ how n j))) * (lg) = fwp_ how V da (fwi_ how n j) := hpp
        rw [hpe]
        refine cm_callV (As := [.long (lN (fwp_ how V da (fwi_ how n j))), .long (lN (ua (fwi_ how n j)))]) (rest := []) (d2 := 1) dX2_follow_189 ha (fA_lt hfb 7 (by decide)) (fA_7 hfb) zz_clX4 zc_X2_38 zs_X4_set rfl rfl (Nat.le_of_ble_eq_true rfl) (Nat.le_of_ble_eq_true rfl) (by decide) (cq_set ha hfb.lasting (Nat.lt_of_le_of_lt hB (by omega)) (by omega) hu0) (fun r h1 hq => ?_)
        obtain ⟨rfl, ha, hf'⟩ := hq
        have hf := hf.tr hf'
        refine mm_aload_n dX2_follow_192 rfl 8 rfl ?_
        refine mm_iload dX2_follow_193 2 rfl ?_
        refine mn_ifB_eq (tgt := 206) dX2_follow_195 (by decide) (fun c195 => ?_) (fun c195 => ?_)
        · have hs1 : ¬ so (fwi_ how n j) = 1 := of_decide_eq_false c195
          refine mm_sipush (v := nI 1000) dX2_follow_206 (by decide) ?_
          refine mn_top (u := .int (Int32.ofInt ((if so (fwi_ how n j) = 1 then fwh_ how pi (fwv_ so pi (fwst_ so pi V ua da n how bh hg j) (fwi_ how n j)) (fwi_ how n j) + hg else 1000, (fwst_ so pi V ua da n how bh hg j).2.1, (red (fwp_ how V da (fwi_ how n j)) (ua (fwi_ how n j)))) : fE).1)) (congrArg Value.int (by show _ = Int32.ofInt (if so (fwi_ how n j) = 1 then _ else 1000); rw [if_neg hs1]; rfl)) ?_
          refine cm_callV (As := [.int (Int32.ofInt ((if so (fwi_ how n j) = 1 then fwh_ how pi (fwv_ so pi (fwst_ so pi V ua da n how bh hg j) (fwi_ how n j)) (fwi_ how n j) + hg else 1000, (fwst_ so pi V ua da n how bh hg j).2.1, (red (fwp_ how V da (fwi_ how n j)) (ua (fwi_ how n j)))) : fE).1)]) (rest := []) (d2 := 0) dX2_follow_209 ha (fA_lt hfb 0 (by decide)) (fA_0 hfb) zz_clX2 zc_X2_70 zs_X2_append rfl rfl (Nat.le_of_ble_eq_true rfl) (Nat.le_of_ble_eq_true rfl) (by decide) (cw_append ha hfb hfl.1 (by omega)) (fun r h1 hq => ?_)
          obtain ⟨rfl, ha, hf'⟩ := hq
          have hf := hf.tr hf'
          rw [show (xu (xu Y1 (b + 7) 0 (lN (red (fwp_ how V da (fwi_ how n j)) (ua (fwi_ how n j))).1)) (b + 7) 1 (lN (red (fwp_ how V da (fwi_ how n j)) (ua (fwi_ how n j))).2)) (b + 6) 0 = lN (fwst_ so pi V ua da n how bh hg j).2.1.1 from (xu_a (by omega)).trans ((xu_a (by omega)).trans ht1), show (xu (xu Y1 (b + 7) 0 (lN (red (fwp_ how V da (fwi_ how n j)) (ua (fwi_ how n j))).1)) (b + 7) 1 (lN (red (fwp_ how V da (fwi_ how n j)) (ua (fwi_ how n j))).2)) (b + 6) 1 = lN (fwst_ so pi V ua da n how bh hg j).2.1.2 from (xu_a (by omega)).trans ((xu_a (by omega)).trans ht2), show (xu (xu Y1 (b + 7) 0 (lN (red (fwp_ how V da (fwi_ how n j)) (ua (fwi_ how n j))).1)) (b + 7) 1 (lN (red (fwp_ how V da (fwi_ how n j)) (ua (fwi_ how n j))).2)) (b + 7) 0 = lN (red (fwp_ how V da (fwi_ how n j)) (ua (fwi_ how n j))).1 from (xu_i (by decide)).trans xu_s, show (xu (xu Y1 (b + 7) 0 (lN (red (fwp_ how V da (fwi_ how n j)) (ua (fwi_ how n j))).1)) (b + 7) 1 (lN (red (fwp_ how V da (fwi_ how n j)) (ua (fwi_ how n j))).2)) (b + 7) 1 = lN (red (fwp_ how V da (fwi_ how n j)) (ua (fwi_ how n j))).2 from xu_s] at ha
          have hfl0 : flw_ X1 (xu (xu Y1 (b + 7) 0 (lN (red (fwp_ how V da (fwi_ how n j)) (ua (fwi_ how n j))).1)) (b + 7) 1 (lN (red (fwp_ how V da (fwi_ how n j)) (ua (fwi_ how n j))).2)) b (fwst_ so pi V ua da n how bh hg j).1 := flw_x hfl (fun _ _ _ => rfl) (fun c i h1 h2 => (xu_a (by omega)).trans (xu_a (by omega)))
          have hfl2 := flw_s (e := (if so (fwi_ how n j) = 1 then fwh_ how pi (fwv_ so pi (fwst_ so pi V ua da n how bh hg j) (fwi_ how n j)) (fwi_ how n j) + hg else 1000, (fwst_ so pi V ua da n how bh hg j).2.1, (red (fwp_ how V da (fwi_ how n j)) (ua (fwi_ how n j))))) hfl0
          refine mm_aload_n dX2_follow_212 rfl 8 rfl ?_
          refine cm_getR (b := b + 6) dX2_follow_213 ha zr_X2_31 (fA_lt hfb 0 (by decide)) (fA_0 hfb) rfl rfl ?_
          refine mm_aload_n dX2_follow_216 rfl 8 rfl ?_
          refine cm_getR (b := b + 7) dX2_follow_217 ha zr_X2_35 (fA_lt hfb 0 (by decide)) (fA_0 hfb) rfl rfl ?_
          refine cm_callV (As := [.ref (o + (b + 7))]) (rest := []) (d2 := 2) dX2_follow_220 ha (fA_lt hfb 6 (by decide)) (fA_6 hfb) zz_clX4 zc_X2_74 zs_X4_add rfl rfl (Nat.le_of_ble_eq_true rfl) (Nat.le_of_ble_eq_true rfl) (by decide) (cqr_add (t := (fwst_ so pi V ua da n how bh hg j).2.1) (p := (red (fwp_ how V da (fwi_ how n j)) (ua (fwi_ how n j))).1) (q := (red (fwp_ how V da (fwi_ how n j)) (ua (fwi_ how n j))).2) ha hfb.now hfb.lasting hk2 (red_pos hu0) (Nat.dvd_trans red_dvd hud) (red_le hu0 hB) (by omega) ((xu_a (by omega)).trans ((xu_a (by omega)).trans ((xu_a (by omega)).trans ((xu_a (by omega)).trans ((xu_a (by omega)).trans ((xu_a (by omega)).trans ht1)))))) ((xu_a (by omega)).trans ((xu_a (by omega)).trans ((xu_a (by omega)).trans ((xu_a (by omega)).trans ((xu_a (by omega)).trans ((xu_a (by omega)).trans ht2)))))) ((xu_a (by omega)).trans ((xu_a (by omega)).trans ((xu_a (by omega)).trans ((xu_a (by omega)).trans ((xu_i (by decide)).trans xu_s))))) ((xu_a (by omega)).trans ((xu_a (by omega)).trans ((xu_a (by omega)).trans ((xu_a (by omega)).trans xu_s))))) (fun r h1 hq => ?_)
          obtain ⟨rfl, ha, hf'⟩ := hq
          have hf := hf.tr hf'
          rw [tAd_red hk2.1 hu0] at ha
          refine mn_iinc (m := 1) (L' := [(7, .int (nI (j + 1))), (12, .int (nI (lg))), (11, .int (tr)), (10, .int (nI (Bool.toNat (decide (so (fwi_ how n j) = 1))))), (9, .int (pt)), (8, .int (nI (fwi_ how n j))), (6, .int (Int32.ofInt ((fwv_ so pi (fwst_ so pi V ua da n how bh hg j) (fwi_ how n j)).getD 0))), (5, .int (nI (Bool.toNat ((fwv_ so pi (fwst_ so pi V ua da n how bh hg j) (fwi_ how n j)).isSome)))), (0, .ref (o + b)), (1, .ref (o + v)), (2, .int (nI (how))), (3, .int (nI (bh))), (4, .int (Int32.ofInt hg))]) dX2_follow_223 (by decide) 5 rfl (by decide) rfl ?_
          refine mm_goto (tgt := 19) dX2_follow_226 (by decide) ?_
          refine mn_sub [0, 6, 7, 8, 9, 10, 11, 12] rfl ?_
          have ih := ih (j + 1)
          rw [hstp] at ih
          refine ih _ _ _ (by omega) (fun c i n1 n2 => ?_) (fun c i n1 => ?_) (flw_x hfl2 (fun _ _ _ => rfl) (fun c i h1 h2 => (xu_a (by omega)).trans (xu_a (by omega)))) ((xu_i (by decide)).trans xu_s) xu_s ha hf
          · rw [xu_z n1, xu_a n2]; exact hfx c i n1 n2
          · rw [xu_a (by omega), xu_a (by omega), xu_a (by omega), xu_a (by omega), xu_a (by omega), xu_a (by omega), xu_a (by omega), xu_a (by omega)]; exact hfy c i n1
        · have hs1 : so (fwi_ how n j) = 1 := of_decide_eq_true c195
          refine mm_iload dX2_follow_198 1 rfl ?_
          refine mm_iload dX2_follow_200 12 rfl ?_
          refine mm_iadd dX2_follow_202 ?_
          refine mm_goto (tgt := 209) dX2_follow_203 (by decide) ?_
          refine mn_top (u := .int (Int32.ofInt ((if so (fwi_ how n j) = 1 then fwh_ how pi (fwv_ so pi (fwst_ so pi V ua da n how bh hg j) (fwi_ how n j)) (fwi_ how n j) + hg else 1000, (fwst_ so pi V ua da n how bh hg j).2.1, (red (fwp_ how V da (fwi_ how n j)) (ua (fwi_ how n j)))) : fE).1)) (congrArg Value.int (by show _ = Int32.ofInt (if so (fwi_ how n j) = 1 then _ else 1000); rw [if_pos hs1, htr hs1, Int32.ofInt_add])) ?_
          refine cm_callV (As := [.int (Int32.ofInt ((if so (fwi_ how n j) = 1 then fwh_ how pi (fwv_ so pi (fwst_ so pi V ua da n how bh hg j) (fwi_ how n j)) (fwi_ how n j) + hg else 1000, (fwst_ so pi V ua da n how bh hg j).2.1, (red (fwp_ how V da (fwi_ how n j)) (ua (fwi_ how n j)))) : fE).1)]) (rest := []) (d2 := 0) dX2_follow_209 ha (fA_lt hfb 0 (by decide)) (fA_0 hfb) zz_clX2 zc_X2_70 zs_X2_append rfl rfl (Nat.le_of_ble_eq_true rfl) (Nat.le_of_ble_eq_true rfl) (by decide) (cw_append ha hfb hfl.1 (by omega)) (fun r h1 hq => ?_)
          obtain ⟨rfl, ha, hf'⟩ := hq
          have hf := hf.tr hf'
          rw [show (xu (xu Y1 (b + 7) 0 (lN (red (fwp_ how V da (fwi_ how n j)) (ua (fwi_ how n j))).1)) (b + 7) 1 (lN (red (fwp_ how V da (fwi_ how n j)) (ua (fwi_ how n j))).2)) (b + 6) 0 = lN (fwst_ so pi V ua da n how bh hg j).2.1.1 from (xu_a (by omega)).trans ((xu_a (by omega)).trans ht1), show (xu (xu Y1 (b + 7) 0 (lN (red (fwp_ how V da (fwi_ how n j)) (ua (fwi_ how n j))).1)) (b + 7) 1 (lN (red (fwp_ how V da (fwi_ how n j)) (ua (fwi_ how n j))).2)) (b + 6) 1 = lN (fwst_ so pi V ua da n how bh hg j).2.1.2 from (xu_a (by omega)).trans ((xu_a (by omega)).trans ht2), show (xu (xu Y1 (b + 7) 0 (lN (red (fwp_ how V da (fwi_ how n j)) (ua (fwi_ how n j))).1)) (b + 7) 1 (lN (red (fwp_ how V da (fwi_ how n j)) (ua (fwi_ how n j))).2)) (b + 7) 0 = lN (red (fwp_ how V da (fwi_ how n j)) (ua (fwi_ how n j))).1 from (xu_i (by decide)).trans xu_s, show (xu (xu Y1 (b + 7) 0 (lN (red (fwp_ how V da (fwi_ how n j)) (ua (fwi_ how n j))).1)) (b + 7) 1 (lN (red (fwp_ how V da (fwi_ how n j)) (ua (fwi_ how n j))).2)) (b + 7) 1 = lN (red (fwp_ how V da (fwi_ how n j)) (ua (fwi_ how n j))).2 from xu_s] at ha
          have hfl0 : flw_ X1 (xu (xu Y1 (b + 7) 0 (lN (red (fwp_ how V da (fwi_ how n j)) (ua (fwi_ how n j))).1)) (b + 7) 1 (lN (red (fwp_ how V da (fwi_ how n j)) (ua (fwi_ how n j))).2)) b (fwst_ so pi V ua da n how bh hg j).1 := flw_x hfl (fun _ _ _ => rfl) (fun c i h1 h2 => (xu_a (by omega)).trans (xu_a (by omega)))
          have hfl2 := flw_s (e := (if so (fwi_ how n j) = 1 then fwh_ how pi (fwv_ so pi (fwst_ so pi V ua da n how bh hg j) (fwi_ how n j)) (fwi_ how n j) + hg else 1000, (fwst_ so pi V ua da n how bh hg j).2.1, (red (fwp_ how V da (fwi_ how n j)) (ua (fwi_ how n j))))) hfl0
          refine mm_aload_n dX2_follow_212 rfl 8 rfl ?_
          refine cm_getR (b := b + 6) dX2_follow_213 ha zr_X2_31 (fA_lt hfb 0 (by decide)) (fA_0 hfb) rfl rfl ?_
          refine mm_aload_n dX2_follow_216 rfl 8 rfl ?_
          refine cm_getR (b := b + 7) dX2_follow_217 ha zr_X2_35 (fA_lt hfb 0 (by decide)) (fA_0 hfb) rfl rfl ?_
          refine cm_callV (As := [.ref (o + (b + 7))]) (rest := []) (d2 := 2) dX2_follow_220 ha (fA_lt hfb 6 (by decide)) (fA_6 hfb) zz_clX4 zc_X2_74 zs_X4_add rfl rfl (Nat.le_of_ble_eq_true rfl) (Nat.le_of_ble_eq_true rfl) (by decide) (cqr_add (t := (fwst_ so pi V ua da n how bh hg j).2.1) (p := (red (fwp_ how V da (fwi_ how n j)) (ua (fwi_ how n j))).1) (q := (red (fwp_ how V da (fwi_ how n j)) (ua (fwi_ how n j))).2) ha hfb.now hfb.lasting hk2 (red_pos hu0) (Nat.dvd_trans red_dvd hud) (red_le hu0 hB) (by omega) ((xu_a (by omega)).trans ((xu_a (by omega)).trans ((xu_a (by omega)).trans ((xu_a (by omega)).trans ((xu_a (by omega)).trans ((xu_a (by omega)).trans ht1)))))) ((xu_a (by omega)).trans ((xu_a (by omega)).trans ((xu_a (by omega)).trans ((xu_a (by omega)).trans ((xu_a (by omega)).trans ((xu_a (by omega)).trans ht2)))))) ((xu_a (by omega)).trans ((xu_a (by omega)).trans ((xu_a (by omega)).trans ((xu_a (by omega)).trans ((xu_i (by decide)).trans xu_s))))) ((xu_a (by omega)).trans ((xu_a (by omega)).trans ((xu_a (by omega)).trans ((xu_a (by omega)).trans xu_s))))) (fun r h1 hq => ?_)
          obtain ⟨rfl, ha, hf'⟩ := hq
          have hf := hf.tr hf'
          rw [tAd_red hk2.1 hu0] at ha
          refine mn_iinc (m := 1) (L' := [(7, .int (nI (j + 1))), (12, .int (nI (lg))), (11, .int (tr)), (10, .int (nI (Bool.toNat (decide (so (fwi_ how n j) = 1))))), (9, .int (pt)), (8, .int (nI (fwi_ how n j))), (6, .int (Int32.ofInt ((fwv_ so pi (fwst_ so pi V ua da n how bh hg j) (fwi_ how n j)).getD 0))), (5, .int (nI (Bool.toNat ((fwv_ so pi (fwst_ so pi V ua da n how bh hg j) (fwi_ how n j)).isSome)))), (0, .ref (o + b)), (1, .ref (o + v)), (2, .int (nI (how))), (3, .int (nI (bh))), (4, .int (Int32.ofInt hg))]) dX2_follow_223 (by decide) 5 rfl (by decide) rfl ?_
          refine mm_goto (tgt := 19) dX2_follow_226 (by decide) ?_
          refine mn_sub [0, 6, 7, 8, 9, 10, 11, 12] rfl ?_
          have ih := ih (j + 1)
          rw [hstp] at ih
          refine ih _ _ _ (by omega) (fun c i n1 n2 => ?_) (fun c i n1 => ?_) (flw_x hfl2 (fun _ _ _ => rfl) (fun c i h1 h2 => (xu_a (by omega)).trans (xu_a (by omega)))) ((xu_i (by decide)).trans xu_s) xu_s ha hf
          · rw [xu_z n1, xu_a n2]; exact hfx c i n1 n2
          · rw [xu_a (by omega), xu_a (by omega), xu_a (by omega), xu_a (by omega), xu_a (by omega), xu_a (by omega), xu_a (by omega), xu_a (by omega)]; exact hfy c i n1
      have j4 : ∀ (tr pt : Int32), so (fwi_ how n j) ≠ 3 → (so (fwi_ how n j) = 1 → tr = Int32.ofInt (fwh_ how pi (fwv_ so pi (fwst_ so pi V ua da n how bh hg j) (fwi_ how n j)) (fwi_ how n j))) → mm_V (zz_K l D aa b0) 3 yX2_follow cX2_follow 13 none 140 [(11, .int (tr)), (10, .int (nI (Bool.toNat (decide (so (fwi_ how n j) = 1))))), (9, .int (pt)), (8, .int (nI (fwi_ how n j))), (7, .int (nI (j))), (6, .int (Int32.ofInt ((fwv_ so pi (fwst_ so pi V ua da n how bh hg j) (fwi_ how n j)).getD 0))), (5, .int (nI (Bool.toNat ((fwv_ so pi (fwst_ so pi V ua da n how bh hg j) (fwi_ how n j)).isSome)))), (0, .ref (o + b)), (1, .ref (o + v)), (2, .int (nI (how))), (3, .int (nI (bh))), (4, .int (Int32.ofInt hg))] [] h1 0 0 (fun rv h' => rv = none ∧ ∃ (X' : Nat → Nat → Int32) (Y' : Nat → Nat → Int64), cm_at o X' Y' rl h' ∧ cm_fr o h h' ∧ (∀ c i, ¬ (c = b ∧ i = 7) → c ≠ b + 1 → X' c i = X c i) ∧ (∀ c i, ¬ (b + 2 ≤ c ∧ c ≤ b + 7) → Y' c i = Y c i) ∧ flw_ X' Y' b (fwst_ so pi V ua da n how bh hg n).1) := by
        intro tr pt hn3 htr
        refine mm_iload_n dX2_follow_140 rfl 9 rfl ?_
        refine mm_iconst (v := nI 4) dX2_follow_141 (by decide) ?_
        refine mn_iand dX2_follow_142 ?_
        refine mn_top (u := .int (nI (4 * (how / 4 % 2)))) (congrArg Value.int (by rw [and_4])) ?_
        refine mn_if_eq (tgt := 150) dX2_follow_143 (by decide) (by omega) (fun c143 => ?_) (fun c143 => ?_)
        · refine mm_iconst (v := nI 1) dX2_follow_150 (by decide) ?_
          refine mm_istore (L' := [(12, .int (nI (1))), (11, .int (tr)), (10, .int (nI (Bool.toNat (decide (so (fwi_ how n j) = 1))))), (9, .int (pt)), (8, .int (nI (fwi_ how n j))), (7, .int (nI (j))), (6, .int (Int32.ofInt ((fwv_ so pi (fwst_ so pi V ua da n how bh hg j) (fwi_ how n j)).getD 0))), (5, .int (nI (Bool.toNat ((fwv_ so pi (fwst_ so pi V ua da n how bh hg j) (fwi_ how n j)).isSome)))), (0, .ref (o + b)), (1, .ref (o + v)), (2, .int (nI (how))), (3, .int (nI (bh))), (4, .int (Int32.ofInt hg))]) dX2_follow_151 (by decide) rfl ?_
          refine mn_sub [0, 1, 2, 3, 4, 5, 6, 7, 8, 9, 10, 11, 12] rfl ?_
          exact j5 1 tr pt hn3 (by rw [if_neg (by omega)]) htr
        · refine mm_iconst (v := nI 2) dX2_follow_146 (by decide) ?_
          refine mm_goto (tgt := 151) dX2_follow_147 (by decide) ?_
          refine mm_istore (L' := [(12, .int (nI (2))), (11, .int (tr)), (10, .int (nI (Bool.toNat (decide (so (fwi_ how n j) = 1))))), (9, .int (pt)), (8, .int (nI (fwi_ how n j))), (7, .int (nI (j))), (6, .int (Int32.ofInt ((fwv_ so pi (fwst_ so pi V ua da n how bh hg j) (fwi_ how n j)).getD 0))), (5, .int (nI (Bool.toNat ((fwv_ so pi (fwst_ so pi V ua da n how bh hg j) (fwi_ how n j)).isSome)))), (0, .ref (o + b)), (1, .ref (o + v)), (2, .int (nI (how))), (3, .int (nI (bh))), (4, .int (Int32.ofInt hg))]) dX2_follow_151 (by decide) rfl ?_
          refine mn_sub [0, 1, 2, 3, 4, 5, 6, 7, 8, 9, 10, 11, 12] rfl ?_
          exact j5 2 tr pt hn3 (by rw [if_pos (by omega)]) htr
      have j3 : ∀ (pt : Int32), so (fwi_ how n j) ≠ 3 → (so (fwi_ how n j) = 1 → pt = Int32.ofInt (pi (fwi_ how n j))) → mm_V (zz_K l D aa b0) 3 yX2_follow cX2_follow 13 none 120 [(10, .int (nI (Bool.toNat (decide (so (fwi_ how n j) = 1))))), (9, .int (pt)), (8, .int (nI (fwi_ how n j))), (7, .int (nI (j))), (6, .int (Int32.ofInt ((fwv_ so pi (fwst_ so pi V ua da n how bh hg j) (fwi_ how n j)).getD 0))), (5, .int (nI (Bool.toNat ((fwv_ so pi (fwst_ so pi V ua da n how bh hg j) (fwi_ how n j)).isSome)))), (0, .ref (o + b)), (1, .ref (o + v)), (2, .int (nI (how))), (3, .int (nI (bh))), (4, .int (Int32.ofInt hg))] [] h1 0 0 (fun rv h' => rv = none ∧ ∃ (X' : Nat → Nat → Int32) (Y' : Nat → Nat → Int64), cm_at o X' Y' rl h' ∧ cm_fr o h h' ∧ (∀ c i, ¬ (c = b ∧ i = 7) → c ≠ b + 1 → X' c i = X c i) ∧ (∀ c i, ¬ (b + 2 ≤ c ∧ c ≤ b + 7) → Y' c i = Y c i) ∧ flw_ X' Y' b (fwst_ so pi V ua da n how bh hg n).1) := by
        intro pt hn3 hpt
        refine mm_iload_n dX2_follow_120 rfl 8 rfl ?_
        refine mm_iconst (v := nI 2) dX2_follow_121 (by decide) ?_
        refine mn_iand dX2_follow_122 ?_
        refine mn_top (u := .int (nI (2 * (how / 2 % 2)))) (congrArg Value.int (by rw [and_2])) ?_
        refine mn_if_eq (tgt := 136) dX2_follow_123 (by decide) (by omega) (fun c123 => ?_) (fun c123 => ?_)
        · refine mm_iload dX2_follow_136 1 rfl ?_
          refine mm_istore (L' := [(11, .int (pt)), (10, .int (nI (Bool.toNat (decide (so (fwi_ how n j) = 1))))), (9, .int (pt)), (8, .int (nI (fwi_ how n j))), (7, .int (nI (j))), (6, .int (Int32.ofInt ((fwv_ so pi (fwst_ so pi V ua da n how bh hg j) (fwi_ how n j)).getD 0))), (5, .int (nI (Bool.toNat ((fwv_ so pi (fwst_ so pi V ua da n how bh hg j) (fwi_ how n j)).isSome)))), (0, .ref (o + b)), (1, .ref (o + v)), (2, .int (nI (how))), (3, .int (nI (bh))), (4, .int (Int32.ofInt hg))]) dX2_follow_138 (by decide) rfl ?_
          refine mn_sub [0, 1, 2, 3, 4, 5, 6, 7, 8, 9, 10, 11] rfl ?_
          exact j4 _ pt hn3 (fun hs => by rw [hpt hs]; unfold fwh_; rw [if_neg (by omega)])
        · refine mm_iconst (v := nI 2) dX2_follow_126 (by decide) ?_
          refine mm_iload dX2_follow_127 4 rfl ?_
          refine mm_imul dX2_follow_129 ?_
          refine mm_iload dX2_follow_130 1 rfl ?_
          refine mm_isub dX2_follow_132 ?_
          refine mm_goto (tgt := 138) dX2_follow_133 (by decide) ?_
          refine mm_istore (L' := [(11, .int (((nI (2)) * (Int32.ofInt ((fwv_ so pi (fwst_ so pi V ua da n how bh hg j) (fwi_ how n j)).getD 0))) - (pt))), (10, .int (nI (Bool.toNat (decide (so (fwi_ how n j) = 1))))), (9, .int (pt)), (8, .int (nI (fwi_ how n j))), (7, .int (nI (j))), (6, .int (Int32.ofInt ((fwv_ so pi (fwst_ so pi V ua da n how bh hg j) (fwi_ how n j)).getD 0))), (5, .int (nI (Bool.toNat ((fwv_ so pi (fwst_ so pi V ua da n how bh hg j) (fwi_ how n j)).isSome)))), (0, .ref (o + b)), (1, .ref (o + v)), (2, .int (nI (how))), (3, .int (nI (bh))), (4, .int (Int32.ofInt hg))]) dX2_follow_138 (by decide) rfl ?_
          refine mn_sub [0, 1, 2, 3, 4, 5, 6, 7, 8, 9, 10, 11] rfl ?_
          exact j4 _ pt hn3 (fun hs => by rw [hpt hs]; exact i32_fh (by omega))
      have j2 : ∀ (pt : Int32), so (fwi_ how n j) ≠ 3 → (so (fwi_ how n j) = 1 → pt = Int32.ofInt (pi (fwi_ how n j))) → mm_V (zz_K l D aa b0) 3 yX2_follow cX2_follow 13 none 103 [(10, .int (nI (Bool.toNat (decide (so (fwi_ how n j) = 1))))), (9, .int (pt)), (8, .int (nI (fwi_ how n j))), (7, .int (nI (j))), (6, .int (Int32.ofInt ((fwst_ so pi V ua da n how bh hg j).2.2.getD 0))), (5, .int (nI (Bool.toNat ((fwst_ so pi V ua da n how bh hg j).2.2.isSome)))), (0, .ref (o + b)), (1, .ref (o + v)), (2, .int (nI (how))), (3, .int (nI (bh))), (4, .int (Int32.ofInt hg))] [] h1 0 0 (fun rv h' => rv = none ∧ ∃ (X' : Nat → Nat → Int32) (Y' : Nat → Nat → Int64), cm_at o X' Y' rl h' ∧ cm_fr o h h' ∧ (∀ c i, ¬ (c = b ∧ i = 7) → c ≠ b + 1 → X' c i = X c i) ∧ (∀ c i, ¬ (b + 2 ≤ c ∧ c ≤ b + 7) → Y' c i = Y c i) ∧ flw_ X' Y' b (fwst_ so pi V ua da n how bh hg n).1) := by
        intro pt hn3 hpt
        refine mm_iload dX2_follow_103 0 rfl ?_
        refine mn_ifB_eq (tgt := 120) dX2_follow_105 (by decide) (fun c105 => ?_) (fun c105 => ?_)
        · have hs1 : ¬ so (fwi_ how n j) = 1 := of_decide_eq_false c105
          refine mn_sub [0, 1, 2, 3, 4, 5, 6, 7, 8, 9, 10] rfl ?_
          have j3 := j3 pt hn3 hpt
          have e : (fwv_ so pi (fwst_ so pi V ua da n how bh hg j) (fwi_ how n j)) = (fwst_ so pi V ua da n how bh hg j).2.2 := if_neg (fun z => hs1 z.1)
          rw [e] at j3
          exact j3
        · have hs1 : so (fwi_ how n j) = 1 := of_decide_eq_true c105
          refine mm_iload dX2_follow_108 5 rfl ?_
          refine mn_ifB_ne (tgt := 120) dX2_follow_110 (by decide) (fun c110 => ?_) (fun c110 => ?_)
          · refine mn_sub [0, 1, 2, 3, 4, 5, 6, 7, 8, 9, 10] rfl ?_
            have j3 := j3 pt hn3 hpt
            have e : (fwv_ so pi (fwst_ so pi V ua da n how bh hg j) (fwi_ how n j)) = (fwst_ so pi V ua da n how bh hg j).2.2 := if_neg (fun z => by rw [z.2] at c110; cases c110)
            rw [e] at j3
            exact j3
          · refine mm_iconst (v := nI 1) dX2_follow_113 (by decide) ?_
            refine mm_istore (L' := [(5, .int (nI (1))), (10, .int (nI (Bool.toNat (decide (so (fwi_ how n j) = 1))))), (9, .int (pt)), (8, .int (nI (fwi_ how n j))), (7, .int (nI (j))), (6, .int (Int32.ofInt ((fwst_ so pi V ua da n how bh hg j).2.2.getD 0))), (0, .ref (o + b)), (1, .ref (o + v)), (2, .int (nI (how))), (3, .int (nI (bh))), (4, .int (Int32.ofInt hg))]) dX2_follow_114 (by decide) rfl ?_
            refine mm_iload dX2_follow_116 2 rfl ?_
            refine mm_istore (L' := [(6, .int (pt)), (5, .int (nI (1))), (10, .int (nI (Bool.toNat (decide (so (fwi_ how n j) = 1))))), (9, .int (pt)), (8, .int (nI (fwi_ how n j))), (7, .int (nI (j))), (0, .ref (o + b)), (1, .ref (o + v)), (2, .int (nI (how))), (3, .int (nI (bh))), (4, .int (Int32.ofInt hg))]) dX2_follow_118 (by decide) rfl ?_
            have e0 : (fwst_ so pi V ua da n how bh hg j).2.2 = none := by
              cases hz : (fwst_ so pi V ua da n how bh hg j).2.2 with
              | none => rfl
              | some q => rw [hz] at c110; cases c110
            have hpt2 := hpt hs1
            refine mn_sub [2, 3, 4, 5, 0, 1, 6, 7, 8, 9, 10] rfl ?_
            have j3 := j3 pt hn3 hpt
            have e : (fwv_ so pi (fwst_ so pi V ua da n how bh hg j) (fwi_ how n j)) = some (pi (fwi_ how n j)) := if_pos ⟨hs1, e0⟩
            rw [e] at j3
            show mm_V (zz_K l D aa b0) 3 yX2_follow cX2_follow 13 none 120 [(10, .int (nI (Bool.toNat (decide (so (fwi_ how n j) = 1))))), (9, .int (pt)), (8, .int (nI (fwi_ how n j))), (7, .int (nI (j))), (6, .int (pt)), (5, .int (nI (1))), (0, .ref (o + b)), (1, .ref (o + v)), (2, .int (nI (how))), (3, .int (nI (bh))), (4, .int (Int32.ofInt hg))] [] h1 0 0 (fun rv h' => rv = none ∧ ∃ (X' : Nat → Nat → Int32) (Y' : Nat → Nat → Int64), cm_at o X' Y' rl h' ∧ cm_fr o h h' ∧ (∀ c i, ¬ (c = b ∧ i = 7) → c ≠ b + 1 → X' c i = X c i) ∧ (∀ c i, ¬ (b + 2 ≤ c ∧ c ≤ b + 7) → Y' c i = Y c i) ∧ flw_ X' Y' b (fwst_ so pi V ua da n how bh hg n).1)
            rw [show (Int32.ofInt ((some (pi (fwi_ how n j))).getD 0)) = pt from hpt2.symm] at j3
            exact j3
      have j1 : mm_V (zz_K l D aa b0) 3 yX2_follow cX2_follow 13 none 56 [(8, .int (nI (fwi_ how n j))), (7, .int (nI (j))), (6, .int (Int32.ofInt ((fwst_ so pi V ua da n how bh hg j).2.2.getD 0))), (5, .int (nI (Bool.toNat ((fwst_ so pi V ua da n how bh hg j).2.2.isSome)))), (0, .ref (o + b)), (1, .ref (o + v)), (2, .int (nI (how))), (3, .int (nI (bh))), (4, .int (Int32.ofInt hg))] [] h1 0 0 (fun rv h' => rv = none ∧ ∃ (X' : Nat → Nat → Int32) (Y' : Nat → Nat → Int64), cm_at o X' Y' rl h' ∧ cm_fr o h h' ∧ (∀ c i, ¬ (c = b ∧ i = 7) → c ≠ b + 1 → X' c i = X c i) ∧ (∀ c i, ¬ (b + 2 ≤ c ∧ c ≤ b + 7) → Y' c i = Y c i) ∧ flw_ X' Y' b (fwst_ so pi V ua da n how bh hg n).1) := by
        refine mm_aload_n dX2_follow_56 rfl 5 rfl ?_
        refine cm_getR (b := v + 3) dX2_follow_57 ha zr_X2_42 (vA_lt hva 0 (by decide)) (vA_0 hva) rfl rfl ?_
        refine mm_iload dX2_follow_60 0 rfl ?_
        refine cm_callVr (As := [.int (nI (fwi_ how n j))]) (rest := []) (d2 := 0) dX2_follow_62 ha (vA_lt hva 3 (by decide)) (vA_3 hva) zz_clX6 zc_X2_54 zs_X6_sortAt rfl rfl (Nat.le_of_ble_eq_true rfl) (Nat.le_of_ble_eq_true rfl) (by decide) (cr_sortAt ha (vr_A hva) ((hfx _ _ (by omega) (by omega)).trans hn) hn24 (by omega)) ?_
        refine mn_top (u := .int (nI (so (fwi_ how n j)))) (congrArg Value.int (by rw [if_pos hil]; exact (hfx _ _ (by omega) (by omega)).trans hso.1)) ?_
        refine mm_iconst (v := nI 3) dX2_follow_65 (by decide) ?_
        refine mn_icmp_ne (tgt := 72) dX2_follow_66 (by decide) (by omega) (by omega) (fun c66 => ?_) (fun c66 => ?_)
        · refine mm_aload_n dX2_follow_72 rfl 5 rfl ?_
          refine cm_getR (b := v + 3) dX2_follow_73 ha zr_X2_42 (vA_lt hva 0 (by decide)) (vA_0 hva) rfl rfl ?_
          refine mm_iload dX2_follow_76 0 rfl ?_
          refine cm_callVr (As := [.int (nI (fwi_ how n j))]) (rest := []) (d2 := 0) dX2_follow_78 ha (vA_lt hva 3 (by decide)) (vA_3 hva) zz_clX6 zc_X2_58 zs_X6_pitchAt rfl rfl (Nat.le_of_ble_eq_true rfl) (Nat.le_of_ble_eq_true rfl) (by decide) (cr_pitchAt ha (vr_A hva) ((hfx _ _ (by omega) (by omega)).trans hn) hn24 (by omega)) ?_
          refine mn_top (u := .int (X1 (v + 6) (fwi_ how n j))) (congrArg Value.int (by rw [if_pos hil])) ?_
          refine mm_istore (L' := [(9, .int (X1 (v + 6) (fwi_ how n j))), (8, .int (nI (fwi_ how n j))), (7, .int (nI (j))), (6, .int (Int32.ofInt ((fwst_ so pi V ua da n how bh hg j).2.2.getD 0))), (5, .int (nI (Bool.toNat ((fwst_ so pi V ua da n how bh hg j).2.2.isSome)))), (0, .ref (o + b)), (1, .ref (o + v)), (2, .int (nI (how))), (3, .int (nI (bh))), (4, .int (Int32.ofInt hg))]) dX2_follow_81 (by decide) rfl ?_
          refine mm_aload_n dX2_follow_83 rfl 6 rfl ?_
          refine cm_getR (b := v + 3) dX2_follow_84 ha zr_X2_42 (vA_lt hva 0 (by decide)) (vA_0 hva) rfl rfl ?_
          refine mm_iload dX2_follow_87 1 rfl ?_
          refine cm_callVr (As := [.int (nI (fwi_ how n j))]) (rest := []) (d2 := 0) dX2_follow_89 ha (vA_lt hva 3 (by decide)) (vA_3 hva) zz_clX6 zc_X2_54 zs_X6_sortAt rfl rfl (Nat.le_of_ble_eq_true rfl) (Nat.le_of_ble_eq_true rfl) (by decide) (cr_sortAt ha (vr_A hva) ((hfx _ _ (by omega) (by omega)).trans hn) hn24 (by omega)) ?_
          refine mn_top (u := .int (nI (so (fwi_ how n j)))) (congrArg Value.int (by rw [if_pos hil]; exact (hfx _ _ (by omega) (by omega)).trans hso.1)) ?_
          refine mm_iconst (v := nI 1) dX2_follow_92 (by decide) ?_
          refine mn_icmp_ne (tgt := 100) dX2_follow_93 (by decide) (by omega) (by omega) (fun c93 => ?_) (fun c93 => ?_)
          · refine mm_iconst (v := nI 0) dX2_follow_100 (by decide) ?_
            refine mn_top (u := .int (nI (Bool.toNat (decide (so (fwi_ how n j) = 1))))) (congrArg Value.int (by rw [decide_eq_false (by omega)]; rfl)) ?_
            refine mm_istore (L' := [(10, .int (nI (Bool.toNat (decide (so (fwi_ how n j) = 1))))), (9, .int (X1 (v + 6) (fwi_ how n j))), (8, .int (nI (fwi_ how n j))), (7, .int (nI (j))), (6, .int (Int32.ofInt ((fwst_ so pi V ua da n how bh hg j).2.2.getD 0))), (5, .int (nI (Bool.toNat ((fwst_ so pi V ua da n how bh hg j).2.2.isSome)))), (0, .ref (o + b)), (1, .ref (o + v)), (2, .int (nI (how))), (3, .int (nI (bh))), (4, .int (Int32.ofInt hg))]) dX2_follow_101 (by decide) rfl ?_
            refine mn_sub [0, 1, 2, 3, 4, 5, 6, 7, 8, 9, 10] rfl ?_
            exact j2 _ c66 (fun hs => (hfx _ _ (by omega) (by omega)).trans (hso.2.2 hs))
          · refine mm_iconst (v := nI 1) dX2_follow_96 (by decide) ?_
            refine mm_goto (tgt := 101) dX2_follow_97 (by decide) ?_
            refine mn_top (u := .int (nI (Bool.toNat (decide (so (fwi_ how n j) = 1))))) (congrArg Value.int (by rw [decide_eq_true (by omega)]; rfl)) ?_
            refine mm_istore (L' := [(10, .int (nI (Bool.toNat (decide (so (fwi_ how n j) = 1))))), (9, .int (X1 (v + 6) (fwi_ how n j))), (8, .int (nI (fwi_ how n j))), (7, .int (nI (j))), (6, .int (Int32.ofInt ((fwst_ so pi V ua da n how bh hg j).2.2.getD 0))), (5, .int (nI (Bool.toNat ((fwst_ so pi V ua da n how bh hg j).2.2.isSome)))), (0, .ref (o + b)), (1, .ref (o + v)), (2, .int (nI (how))), (3, .int (nI (bh))), (4, .int (Int32.ofInt hg))]) dX2_follow_101 (by decide) rfl ?_
            refine mn_sub [0, 1, 2, 3, 4, 5, 6, 7, 8, 9, 10] rfl ?_
            exact j2 _ c66 (fun hs => (hfx _ _ (by omega) (by omega)).trans (hso.2.2 hs))
        · rw [if_pos (show _ = 3 from by omega)] at hstp
          refine mm_goto (tgt := 223) dX2_follow_69 (by decide) ?_
          refine mn_iinc (m := 1) (L' := [(7, .int (nI (j + 1))), (8, .int (nI (fwi_ how n j))), (6, .int (Int32.ofInt ((fwst_ so pi V ua da n how bh hg j).2.2.getD 0))), (5, .int (nI (Bool.toNat ((fwst_ so pi V ua da n how bh hg j).2.2.isSome)))), (0, .ref (o + b)), (1, .ref (o + v)), (2, .int (nI (how))), (3, .int (nI (bh))), (4, .int (Int32.ofInt hg))]) dX2_follow_223 (by decide) 1 rfl (by decide) rfl ?_
          refine mm_goto (tgt := 19) dX2_follow_226 (by decide) ?_
          refine mn_sub [0, 2, 3, 4, 5, 6, 7, 8] rfl ?_
          have ih := ih (j + 1)
          rw [hstp] at ih
          exact ih X1 Y1 h1 (by omega) hfx hfy hfl ht1 ht2 ha hf
      refine mm_iload dX2_follow_19 0 rfl ?_
      refine mm_aload_n dX2_follow_21 rfl 4 rfl ?_
      refine cm_getR (b := v + 3) dX2_follow_22 ha zr_X2_42 (vA_lt hva 0 (by decide)) (vA_0 hva) rfl rfl ?_
      refine cm_getI dX2_follow_25 ha zr_X2_48 (vA_lt hva 3 (by decide)) (vA_3 hva) rfl ?_
      refine mn_top (u := .int (nI (n))) (congrArg Value.int (((hfx _ _ (by omega) (by omega)).trans hn))) ?_
      refine mn_icmp_ge (tgt := 229) dX2_follow_28 (by decide) (by omega) (by omega) (fun c28 => ?_) (fun c28 => ?_)
      · omega
      · refine mm_iload_n dX2_follow_31 rfl 5 rfl ?_
        refine mm_iconst (v := nI 1) dX2_follow_32 (by decide) ?_
        refine mn_iand dX2_follow_33 ?_
        refine mn_top (u := .int (nI (how % 2))) (congrArg Value.int (by rw [and_1])) ?_
        refine mn_if_eq (tgt := 52) dX2_follow_34 (by decide) (by omega) (fun c34 => ?_) (fun c34 => ?_)
        · refine mm_iload dX2_follow_52 0 rfl ?_
          refine mn_top (u := .int (nI (fwi_ how n j))) (congrArg Value.int (by unfold fwi_; rw [if_neg (by omega)])) ?_
          refine mm_istore (L' := [(8, .int (nI (fwi_ how n j))), (7, .int (nI (j))), (6, .int (Int32.ofInt ((fwst_ so pi V ua da n how bh hg j).2.2.getD 0))), (5, .int (nI (Bool.toNat ((fwst_ so pi V ua da n how bh hg j).2.2.isSome)))), (0, .ref (o + b)), (1, .ref (o + v)), (2, .int (nI (how))), (3, .int (nI (bh))), (4, .int (Int32.ofInt hg))]) dX2_follow_54 (by decide) rfl ?_
          refine mn_sub [0, 1, 2, 3, 4, 5, 6, 7, 8] rfl ?_
          exact j1
        · refine mm_aload_n dX2_follow_37 rfl 4 rfl ?_
          refine cm_getR (b := v + 3) dX2_follow_38 ha zr_X2_42 (vA_lt hva 0 (by decide)) (vA_0 hva) rfl rfl ?_
          refine cm_getI dX2_follow_41 ha zr_X2_48 (vA_lt hva 3 (by decide)) (vA_3 hva) rfl ?_
          refine mn_top (u := .int (nI (n))) (congrArg Value.int (((hfx _ _ (by omega) (by omega)).trans hn))) ?_
          refine mm_iconst (v := nI 1) dX2_follow_44 (by decide) ?_
          refine mn_isub dX2_follow_45 (by omega) ?_
          refine mm_iload dX2_follow_46 0 rfl ?_
          refine mn_isub dX2_follow_48 (by omega) ?_
          refine mm_goto (tgt := 54) dX2_follow_49 (by decide) ?_
          refine mn_top (u := .int (nI (fwi_ how n j))) (congrArg Value.int (by unfold fwi_; rw [if_pos (by omega)])) ?_
          refine mm_istore (L' := [(8, .int (nI (fwi_ how n j))), (7, .int (nI (j))), (6, .int (Int32.ofInt ((fwst_ so pi V ua da n how bh hg j).2.2.getD 0))), (5, .int (nI (Bool.toNat ((fwst_ so pi V ua da n how bh hg j).2.2.isSome)))), (0, .ref (o + b)), (1, .ref (o + v)), (2, .int (nI (how))), (3, .int (nI (bh))), (4, .int (Int32.ofInt hg))]) dX2_follow_54 (by decide) rfl ?_
          refine mn_sub [0, 1, 2, 3, 4, 5, 6, 7, 8] rfl ?_
          exact j1
  refine mm_aload_n dX2_follow_0 rfl 0 rfl ?_
  refine cm_getR (b := b + 6) dX2_follow_1 ha zr_X2_31 (fA_lt hfb 0 (by decide)) (fA_0 hfb) rfl rfl ?_
  refine mm_iload_n dX2_follow_4 rfl 3 rfl ?_
  refine mn_i2l dX2_follow_5 (by omega) ?_
  refine mm_lconst (v := lN 1) dX2_follow_6 (by decide) ?_
  refine cm_callV (As := [.long (lN (bh)), .long (lN (1))]) (rest := []) (d2 := 1) dX2_follow_7 ha (fA_lt hfb 6 (by decide)) (fA_6 hfb) zz_clX4 zc_X2_38 zs_X4_set rfl rfl (Nat.le_of_ble_eq_true rfl) (Nat.le_of_ble_eq_true rfl) (by decide) (cq_set ha hfb.now (by omega) (by decide) (by decide)) (fun r h1 hq => ?_)
  obtain ⟨rfl, ha, hf'⟩ := hq
  have hf := hf.tr hf'
  rw [red_n1] at ha
  refine mm_iconst (v := nI 0) dX2_follow_10 (by decide) ?_
  refine mm_istore (L' := [(5, .int (nI (0))), (0, .ref (o + b)), (1, .ref (o + v)), (2, .int (nI (how))), (3, .int (nI (bh))), (4, .int (Int32.ofInt hg))]) dX2_follow_11 (by decide) rfl ?_
  refine mm_iconst (v := nI 0) dX2_follow_13 (by decide) ?_
  refine mm_istore (L' := [(6, .int (nI (0))), (5, .int (nI (0))), (0, .ref (o + b)), (1, .ref (o + v)), (2, .int (nI (how))), (3, .int (nI (bh))), (4, .int (Int32.ofInt hg))]) dX2_follow_14 (by decide) rfl ?_
  refine mm_iconst (v := nI 0) dX2_follow_16 (by decide) ?_
  refine mm_istore (L' := [(7, .int (nI (0))), (6, .int (nI (0))), (5, .int (nI (0))), (0, .ref (o + b)), (1, .ref (o + v)), (2, .int (nI (how))), (3, .int (nI (bh))), (4, .int (Int32.ofInt hg))]) dX2_follow_17 (by decide) rfl ?_
  refine mn_sub [0, 1, 2, 3, 4, 5, 6, 7] rfl ?_
  refine lp n 0 X _ _ (by omega) (fun _ _ _ _ => rfl) (fun c i hc => (xu_a (by omega)).trans (xu_a (by omega))) ⟨h0, fun i e he => by cases he⟩ ((xu_i (by decide)).trans xu_s) xu_s ha hf
