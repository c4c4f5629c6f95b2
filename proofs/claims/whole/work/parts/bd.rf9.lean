/-! the reference: ligatures -/
def lgPb (x : Int64) : Nat → Bool
  | 0 => true
  | k + 1 => lgPb x k && decide ((-40) ≤ ptc x k ∧ ptc x k ≤ nI 40)
def lgDb (x : Int64) : Nat → Bool
  | 0 => true
  | k + 1 => lgDb x k && (decide (k = 0) || decide (ptc x k ≠ ptc x (k - 1)))
theorem lgPb_t {x : Int64} : ∀ n, lgPb x n = true ↔ lgP x n
  | 0 => ⟨fun _ k hk => by omega, fun _ => rfl⟩
  | n + 1 => by
    show (lgPb x n && decide ((-40) ≤ ptc x n ∧ ptc x n ≤ nI 40)) = true ↔ _
    rw [Bool.and_eq_true, lgPb_t n, decide_eq_true_eq]
    constructor
    · intro h k hk
      by_cases e : k = n
      · rw [e]; exact h.2
      · exact h.1 k (by omega)
    · intro h
      exact ⟨fun k hk => h k (by omega), h n (by omega)⟩
theorem lgDb_t {x : Int64} : ∀ n, lgDb x n = true ↔ lgD x n
  | 0 => ⟨fun _ k h1 hk => by omega, fun _ => rfl⟩
  | n + 1 => by
    show (lgDb x n && (decide (n = 0) || decide (ptc x n ≠ ptc x (n - 1)))) = true ↔ _
    rw [Bool.and_eq_true, lgDb_t n, Bool.or_eq_true, decide_eq_true_eq, decide_eq_true_eq]
    constructor
    · intro h k h1 hk
      by_cases e : k = n
      · rw [e]; exact h.2.resolve_left (by omega)
      · exact h.1 k h1 (by omega)
    · intro h
      refine ⟨fun k h1 hk => h k h1 (by omega), ?_⟩
      by_cases e : n = 0
      · exact Or.inl e
      · exact Or.inr (h n (by omega) (by omega))
theorem pi_to {p : Int32} (h : ¬ ((-40) ≤ p ∧ p ≤ nI 40)) : ¬ ((-40 : Int) ≤ p.toInt ∧ p.toInt ≤ 40) := fun q => h (by
  refine ⟨Int32.le_iff_toInt_le.mpr ?_, Int32.le_iff_toInt_le.mpr ?_⟩
  · have e : (-40 : Int32).toInt = -40 := by decide
    omega
  · have e : (nI 40).toInt = 40 := by decide
    omega)
set_option maxRecDepth 100000 in
set_option maxHeartbeats 4000000 in
theorem tl_pitchIn {l : Launch} {D : va_G} {aa : Nat → ClassId} {b0 : Nat} {h : mm_H} {x : Int64} {k : Nat} (hk : k < 8) : mm_V (zz_K l D aa b0) 0 yX12_pitchIn cX12_pitchIn 3 (some .int) 0 [(0, .long (x)), (2, .int (nI (k)))] [] h 0 0 (fun r h' => h' = h ∧ r = some (.int (ptc x k))) := by
  refine mm_lload_n dX12_pitchIn_0 rfl 0 rfl ?_
  refine mm_bipush (v := nI 56) dX12_pitchIn_1 (by decide) ?_
  refine mm_bipush (v := nI 8) dX12_pitchIn_3 (by decide) ?_
  refine mm_iload_n dX12_pitchIn_5 rfl 1 rfl ?_
  refine mn_imul dX12_pitchIn_6 ?_
  refine mn_isub dX12_pitchIn_7 (by omega) ?_
  refine mm_lshl dX12_pitchIn_8 ?_
  refine mm_bipush (v := nI 56) dX12_pitchIn_9 (by decide) ?_
  refine mm_lshr dX12_pitchIn_11 ?_
  refine mm_l2i dX12_pitchIn_12 ?_
  exact mm_iret dX12_pitchIn_13 rfl ⟨rfl, by rw [← ptc_ref (x := x) hk]⟩
set_option maxRecDepth 100000 in
set_option maxHeartbeats 4000000 in
theorem tl_kind {l : Launch} {D : va_G} {aa : Nat → ClassId} {b0 : Nat} {h : mm_H} {x : Int64} {n sh i : Nat} (hn : 2 ≤ n ∧ n ≤ 8) (hsh : sh < 16) (hi : i < n) : mm_V (zz_K l D aa b0) 0 yX12_ligatureKind cX12_ligatureKind 7 (some .int) 0 [(0, .int (nI (sh))), (1, .int (nI (n))), (2, .int (nI (i))), (3, .int (nI (Bool.toNat (lgF x 1)))), (4, .int (nI (Bool.toNat (lgF x (n - 1)))))] [] h 0 0 (fun r h' => h' = h ∧ r = some (.int (nI (lgK sh n x i)))) := by
  refine mm_iload_n dX12_ligatureKind_0 rfl 0 rfl ?_
  refine mm_iconst (v := nI 2) dX12_ligatureKind_1 (by decide) ?_
  refine mm_iand dX12_ligatureKind_2 ?_
  refine mn_top (u := .int (nI (2 * (sh / 2 % 2)))) (congrArg Value.int (by rw [bI_and, and_2])) ?_
  refine mn_if_eq (tgt := 10) dX12_ligatureKind_3 (by decide) (by omega) (fun c3 => ?_) (fun c3 => ?_)
  · refine mm_iconst (v := nI 0) dX12_ligatureKind_10 (by decide) ?_
    refine mm_istore (L' := [(5, .int (nI (0))), (0, .int (nI (sh))), (1, .int (nI (n))), (2, .int (nI (i))), (3, .int (nI (Bool.toNat (lgF x 1)))), (4, .int (nI (Bool.toNat (lgF x (n - 1)))))]) dX12_ligatureKind_11 (by decide) rfl ?_
    refine mm_iload dX12_ligatureKind_13 0 rfl ?_
    refine mn_if_eq (tgt := 41) dX12_ligatureKind_15 (by decide) (by omega) (fun c15 => ?_) (fun c15 => ?_)
    · refine mm_iload_n dX12_ligatureKind_41 rfl 3 rfl ?_
      refine mn_if_ne (tgt := 82) dX12_ligatureKind_42 (by decide) (by omega) (fun c42 => ?_) (fun c42 => ?_)
      · refine mm_iload_n dX12_ligatureKind_82 rfl 3 rfl ?_
        refine mm_iload_n dX12_ligatureKind_83 rfl 2 rfl ?_
        refine mm_iconst (v := nI 1) dX12_ligatureKind_84 (by decide) ?_
        refine mn_isub dX12_ligatureKind_85 (by omega) ?_
        refine mn_icmp_ge (tgt := 91) dX12_ligatureKind_86 (by decide) (by omega) (by omega) (fun c86 => ?_) (fun c86 => ?_)
        · refine mm_iload_n dX12_ligatureKind_91 rfl 1 rfl ?_
          refine mm_bipush (v := nI 8) dX12_ligatureKind_92 (by decide) ?_
          refine mm_iand dX12_ligatureKind_94 ?_
          refine mn_top (u := .int (nI (8 * (sh / 8 % 2)))) (congrArg Value.int (by rw [bI_and, and_8])) ?_
          refine mn_if_eq (tgt := 102) dX12_ligatureKind_95 (by decide) (by omega) (fun c95 => ?_) (fun c95 => ?_)
          · refine mm_iload_n dX12_ligatureKind_102 rfl 1 rfl ?_
            refine mm_iconst (v := nI 4) dX12_ligatureKind_103 (by decide) ?_
            refine mm_iand dX12_ligatureKind_104 ?_
            refine mn_top (u := .int (nI (4 * (sh / 4 % 2)))) (congrArg Value.int (by rw [bI_and, and_4])) ?_
            refine mn_if_eq (tgt := 112) dX12_ligatureKind_105 (by decide) (by omega) (fun c105 => ?_) (fun c105 => ?_)
            · refine mm_iload dX12_ligatureKind_112 5 rfl ?_
              refine mn_ifB_eq (tgt := 121) dX12_ligatureKind_114 (by decide) (fun c114 => ?_) (fun c114 => ?_)
              · refine mm_iconst (v := nI 2) dX12_ligatureKind_121 (by decide) ?_
                exact mm_iret dX12_ligatureKind_122 rfl (⟨rfl, by unfold lgK; rw [if_neg (by omega), if_neg (by omega), if_neg (by omega), if_neg (by omega), if_neg (by omega), if_neg (by rw [c114]; decide)]⟩)
              · refine mm_iconst (v := nI 1) dX12_ligatureKind_117 (by decide) ?_
                refine mm_goto (tgt := 122) dX12_ligatureKind_118 (by decide) ?_
                exact mm_iret dX12_ligatureKind_122 rfl (⟨rfl, by unfold lgK; rw [if_neg (by omega), if_neg (by omega), if_neg (by omega), if_neg (by omega), if_neg (by omega), if_pos c114]⟩)
            · refine mm_iconst (v := nI 2) dX12_ligatureKind_108 (by decide) ?_
              refine mm_goto (tgt := 122) dX12_ligatureKind_109 (by decide) ?_
              exact mm_iret dX12_ligatureKind_122 rfl (⟨rfl, by unfold lgK; rw [if_neg (by omega), if_neg (by omega), if_neg (by omega), if_neg (by omega), if_pos (by omega)]⟩)
          · refine mm_iconst (v := nI 1) dX12_ligatureKind_98 (by decide) ?_
            refine mm_goto (tgt := 122) dX12_ligatureKind_99 (by decide) ?_
            exact mm_iret dX12_ligatureKind_122 rfl (⟨rfl, by unfold lgK; rw [if_neg (by omega), if_neg (by omega), if_neg (by omega), if_pos (by omega)]⟩)
        · refine mm_iconst (v := nI 2) dX12_ligatureKind_89 (by decide) ?_
          exact mm_iret dX12_ligatureKind_90 rfl (⟨rfl, by unfold lgK; rw [if_neg (by omega), if_neg (by omega), if_pos (by omega)]⟩)
      · refine mm_iload_n dX12_ligatureKind_45 rfl 1 rfl ?_
        refine mm_iconst (v := nI 1) dX12_ligatureKind_46 (by decide) ?_
        refine mm_iand dX12_ligatureKind_47 ?_
        refine mn_top (u := .int (nI (sh % 2))) (congrArg Value.int (by rw [bI_and, and_1])) ?_
        refine mn_if_eq (tgt := 55) dX12_ligatureKind_48 (by decide) (by omega) (fun c48 => ?_) (fun c48 => ?_)
        · refine mm_iconst (v := nI 0) dX12_ligatureKind_55 (by decide) ?_
          refine mm_istore (L' := [(6, .int (nI (0))), (5, .int (nI (0))), (0, .int (nI (sh))), (1, .int (nI (n))), (2, .int (nI (i))), (3, .int (nI (Bool.toNat (lgF x 1)))), (4, .int (nI (Bool.toNat (lgF x (n - 1)))))]) dX12_ligatureKind_56 (by decide) rfl ?_
          refine mm_iload dX12_ligatureKind_58 0 rfl ?_
          refine mn_if_eq (tgt := 67) dX12_ligatureKind_60 (by decide) (by omega) (fun c60 => ?_) (fun c60 => ?_)
          · refine mm_iload dX12_ligatureKind_67 0 rfl ?_
            refine mn_if_ne (tgt := 80) dX12_ligatureKind_69 (by decide) (by omega) (fun c69 => ?_) (fun c69 => ?_)
            · exact absurd rfl c69
            · refine mm_iload_n dX12_ligatureKind_72 rfl 5 rfl ?_
              refine mn_ifB_ne (tgt := 80) dX12_ligatureKind_73 (by decide) (fun c73 => ?_) (fun c73 => ?_)
              · refine mm_iconst (v := nI 1) dX12_ligatureKind_80 (by decide) ?_
                exact mm_iret dX12_ligatureKind_81 rfl (⟨rfl, by unfold lgK; rw [if_neg (by omega), if_pos (by omega), c73, decide_eq_false (show ¬ sh % 2 = 1 by omega)]; rfl⟩)
              · refine mm_iconst (v := nI 2) dX12_ligatureKind_76 (by decide) ?_
                refine mm_goto (tgt := 81) dX12_ligatureKind_77 (by decide) ?_
                exact mm_iret dX12_ligatureKind_81 rfl (⟨rfl, by unfold lgK; rw [if_neg (by omega), if_pos (by omega), c73, decide_eq_false (show ¬ sh % 2 = 1 by omega)]; rfl⟩)
          · exact absurd rfl c60
        · refine mm_iconst (v := nI 1) dX12_ligatureKind_51 (by decide) ?_
          refine mm_goto (tgt := 56) dX12_ligatureKind_52 (by decide) ?_
          refine mm_istore (L' := [(6, .int (nI (1))), (5, .int (nI (0))), (0, .int (nI (sh))), (1, .int (nI (n))), (2, .int (nI (i))), (3, .int (nI (Bool.toNat (lgF x 1)))), (4, .int (nI (Bool.toNat (lgF x (n - 1)))))]) dX12_ligatureKind_56 (by decide) rfl ?_
          refine mm_iload dX12_ligatureKind_58 0 rfl ?_
          refine mn_if_eq (tgt := 67) dX12_ligatureKind_60 (by decide) (by omega) (fun c60 => ?_) (fun c60 => ?_)
          · exact absurd c60 (by decide)
          · refine mm_iload_n dX12_ligatureKind_63 rfl 5 rfl ?_
            refine mn_ifB_ne (tgt := 76) dX12_ligatureKind_64 (by decide) (fun c64 => ?_) (fun c64 => ?_)
            · refine mm_iconst (v := nI 2) dX12_ligatureKind_76 (by decide) ?_
              refine mm_goto (tgt := 81) dX12_ligatureKind_77 (by decide) ?_
              exact mm_iret dX12_ligatureKind_81 rfl (⟨rfl, by unfold lgK; rw [if_neg (by omega), if_pos (by omega), c64, decide_eq_true (show sh % 2 = 1 by omega)]; rfl⟩)
            · refine mm_iload dX12_ligatureKind_67 0 rfl ?_
              refine mn_if_ne (tgt := 80) dX12_ligatureKind_69 (by decide) (by omega) (fun c69 => ?_) (fun c69 => ?_)
              · refine mm_iconst (v := nI 1) dX12_ligatureKind_80 (by decide) ?_
                exact mm_iret dX12_ligatureKind_81 rfl (⟨rfl, by unfold lgK; rw [if_neg (by omega), if_pos (by omega), c64, decide_eq_true (show sh % 2 = 1 by omega)]; rfl⟩)
              · exact absurd c69 (by decide)
    · exact absurd rfl c15
  · refine mm_iconst (v := nI 1) dX12_ligatureKind_6 (by decide) ?_
    refine mm_goto (tgt := 11) dX12_ligatureKind_7 (by decide) ?_
    refine mm_istore (L' := [(5, .int (nI (1))), (0, .int (nI (sh))), (1, .int (nI (n))), (2, .int (nI (i))), (3, .int (nI (Bool.toNat (lgF x 1)))), (4, .int (nI (Bool.toNat (lgF x (n - 1)))))]) dX12_ligatureKind_11 (by decide) rfl ?_
    refine mm_iload dX12_ligatureKind_13 0 rfl ?_
    refine mn_if_eq (tgt := 41) dX12_ligatureKind_15 (by decide) (by omega) (fun c15 => ?_) (fun c15 => ?_)
    · exact absurd c15 (by decide)
    · refine mm_iload_n dX12_ligatureKind_18 rfl 3 rfl ?_
      refine mm_iconst (v := nI 2) dX12_ligatureKind_19 (by decide) ?_
      refine mn_icmp_ge (tgt := 41) dX12_ligatureKind_20 (by decide) (by omega) (by omega) (fun c20 => ?_) (fun c20 => ?_)
      · refine mm_iload_n dX12_ligatureKind_41 rfl 3 rfl ?_
        refine mn_if_ne (tgt := 82) dX12_ligatureKind_42 (by decide) (by omega) (fun c42 => ?_) (fun c42 => ?_)
        · refine mm_iload_n dX12_ligatureKind_82 rfl 3 rfl ?_
          refine mm_iload_n dX12_ligatureKind_83 rfl 2 rfl ?_
          refine mm_iconst (v := nI 1) dX12_ligatureKind_84 (by decide) ?_
          refine mn_isub dX12_ligatureKind_85 (by omega) ?_
          refine mn_icmp_ge (tgt := 91) dX12_ligatureKind_86 (by decide) (by omega) (by omega) (fun c86 => ?_) (fun c86 => ?_)
          · refine mm_iload_n dX12_ligatureKind_91 rfl 1 rfl ?_
            refine mm_bipush (v := nI 8) dX12_ligatureKind_92 (by decide) ?_
            refine mm_iand dX12_ligatureKind_94 ?_
            refine mn_top (u := .int (nI (8 * (sh / 8 % 2)))) (congrArg Value.int (by rw [bI_and, and_8])) ?_
            refine mn_if_eq (tgt := 102) dX12_ligatureKind_95 (by decide) (by omega) (fun c95 => ?_) (fun c95 => ?_)
            · refine mm_iload_n dX12_ligatureKind_102 rfl 1 rfl ?_
              refine mm_iconst (v := nI 4) dX12_ligatureKind_103 (by decide) ?_
              refine mm_iand dX12_ligatureKind_104 ?_
              refine mn_top (u := .int (nI (4 * (sh / 4 % 2)))) (congrArg Value.int (by rw [bI_and, and_4])) ?_
              refine mn_if_eq (tgt := 112) dX12_ligatureKind_105 (by decide) (by omega) (fun c105 => ?_) (fun c105 => ?_)
              · refine mm_iload dX12_ligatureKind_112 5 rfl ?_
                refine mn_ifB_eq (tgt := 121) dX12_ligatureKind_114 (by decide) (fun c114 => ?_) (fun c114 => ?_)
                · refine mm_iconst (v := nI 2) dX12_ligatureKind_121 (by decide) ?_
                  exact mm_iret dX12_ligatureKind_122 rfl (⟨rfl, by unfold lgK; rw [if_neg (by omega), if_neg (by omega), if_neg (by omega), if_neg (by omega), if_neg (by omega), if_neg (by rw [c114]; decide)]⟩)
                · refine mm_iconst (v := nI 1) dX12_ligatureKind_117 (by decide) ?_
                  refine mm_goto (tgt := 122) dX12_ligatureKind_118 (by decide) ?_
                  exact mm_iret dX12_ligatureKind_122 rfl (⟨rfl, by unfold lgK; rw [if_neg (by omega), if_neg (by omega), if_neg (by omega), if_neg (by omega), if_neg (by omega), if_pos c114]⟩)
              · refine mm_iconst (v := nI 2) dX12_ligatureKind_108 (by decide) ?_
                refine mm_goto (tgt := 122) dX12_ligatureKind_109 (by decide) ?_
                exact mm_iret dX12_ligatureKind_122 rfl (⟨rfl, by unfold lgK; rw [if_neg (by omega), if_neg (by omega), if_neg (by omega), if_neg (by omega), if_pos (by omega)]⟩)
            · refine mm_iconst (v := nI 1) dX12_ligatureKind_98 (by decide) ?_
              refine mm_goto (tgt := 122) dX12_ligatureKind_99 (by decide) ?_
              exact mm_iret dX12_ligatureKind_122 rfl (⟨rfl, by unfold lgK; rw [if_neg (by omega), if_neg (by omega), if_neg (by omega), if_pos (by omega)]⟩)
          · refine mm_iconst (v := nI 2) dX12_ligatureKind_89 (by decide) ?_
            exact mm_iret dX12_ligatureKind_90 rfl (⟨rfl, by unfold lgK; rw [if_neg (by omega), if_neg (by omega), if_pos (by omega)]⟩)
        · refine mm_iload_n dX12_ligatureKind_45 rfl 1 rfl ?_
          refine mm_iconst (v := nI 1) dX12_ligatureKind_46 (by decide) ?_
          refine mm_iand dX12_ligatureKind_47 ?_
          refine mn_top (u := .int (nI (sh % 2))) (congrArg Value.int (by rw [bI_and, and_1])) ?_
          refine mn_if_eq (tgt := 55) dX12_ligatureKind_48 (by decide) (by omega) (fun c48 => ?_) (fun c48 => ?_)
          · refine mm_iconst (v := nI 0) dX12_ligatureKind_55 (by decide) ?_
            refine mm_istore (L' := [(6, .int (nI (0))), (5, .int (nI (1))), (0, .int (nI (sh))), (1, .int (nI (n))), (2, .int (nI (i))), (3, .int (nI (Bool.toNat (lgF x 1)))), (4, .int (nI (Bool.toNat (lgF x (n - 1)))))]) dX12_ligatureKind_56 (by decide) rfl ?_
            refine mm_iload dX12_ligatureKind_58 0 rfl ?_
            refine mn_if_eq (tgt := 67) dX12_ligatureKind_60 (by decide) (by omega) (fun c60 => ?_) (fun c60 => ?_)
            · refine mm_iload dX12_ligatureKind_67 0 rfl ?_
              refine mn_if_ne (tgt := 80) dX12_ligatureKind_69 (by decide) (by omega) (fun c69 => ?_) (fun c69 => ?_)
              · exact absurd rfl c69
              · refine mm_iload_n dX12_ligatureKind_72 rfl 5 rfl ?_
                refine mn_ifB_ne (tgt := 80) dX12_ligatureKind_73 (by decide) (fun c73 => ?_) (fun c73 => ?_)
                · refine mm_iconst (v := nI 1) dX12_ligatureKind_80 (by decide) ?_
                  exact mm_iret dX12_ligatureKind_81 rfl (⟨rfl, by unfold lgK; rw [if_neg (by omega), if_pos (by omega), c73, decide_eq_false (show ¬ sh % 2 = 1 by omega)]; rfl⟩)
                · refine mm_iconst (v := nI 2) dX12_ligatureKind_76 (by decide) ?_
                  refine mm_goto (tgt := 81) dX12_ligatureKind_77 (by decide) ?_
                  exact mm_iret dX12_ligatureKind_81 rfl (⟨rfl, by unfold lgK; rw [if_neg (by omega), if_pos (by omega), c73, decide_eq_false (show ¬ sh % 2 = 1 by omega)]; rfl⟩)
            · exact absurd rfl c60
          · refine mm_iconst (v := nI 1) dX12_ligatureKind_51 (by decide) ?_
            refine mm_goto (tgt := 56) dX12_ligatureKind_52 (by decide) ?_
            refine mm_istore (L' := [(6, .int (nI (1))), (5, .int (nI (1))), (0, .int (nI (sh))), (1, .int (nI (n))), (2, .int (nI (i))), (3, .int (nI (Bool.toNat (lgF x 1)))), (4, .int (nI (Bool.toNat (lgF x (n - 1)))))]) dX12_ligatureKind_56 (by decide) rfl ?_
            refine mm_iload dX12_ligatureKind_58 0 rfl ?_
            refine mn_if_eq (tgt := 67) dX12_ligatureKind_60 (by decide) (by omega) (fun c60 => ?_) (fun c60 => ?_)
            · exact absurd c60 (by decide)
            · refine mm_iload_n dX12_ligatureKind_63 rfl 5 rfl ?_
              refine mn_ifB_ne (tgt := 76) dX12_ligatureKind_64 (by decide) (fun c64 => ?_) (fun c64 => ?_)
              · refine mm_iconst (v := nI 2) dX12_ligatureKind_76 (by decide) ?_
                refine mm_goto (tgt := 81) dX12_ligatureKind_77 (by decide) ?_
                exact mm_iret dX12_ligatureKind_81 rfl (⟨rfl, by unfold lgK; rw [if_neg (by omega), if_pos (by omega), c64, decide_eq_true (show sh % 2 = 1 by omega)]; rfl⟩)
              · refine mm_iload dX12_ligatureKind_67 0 rfl ?_
                refine mn_if_ne (tgt := 80) dX12_ligatureKind_69 (by decide) (by omega) (fun c69 => ?_) (fun c69 => ?_)
                · refine mm_iconst (v := nI 1) dX12_ligatureKind_80 (by decide) ?_
                  exact mm_iret dX12_ligatureKind_81 rfl (⟨rfl, by unfold lgK; rw [if_neg (by omega), if_pos (by omega), c64, decide_eq_true (show sh % 2 = 1 by omega)]; rfl⟩)
                · exact absurd c69 (by decide)
      · refine mm_iload_n dX12_ligatureKind_23 rfl 3 rfl ?_
        refine mn_if_eq (tgt := 39) dX12_ligatureKind_24 (by decide) (by omega) (fun c24 => ?_) (fun c24 => ?_)
        · refine mm_iconst (v := nI 3) dX12_ligatureKind_39 (by decide) ?_
          exact mm_iret dX12_ligatureKind_40 rfl (⟨rfl, by unfold lgK; rw [if_pos (by omega)]⟩)
        · refine mm_iload_n dX12_ligatureKind_27 rfl 2 rfl ?_
          refine mm_iconst (v := nI 2) dX12_ligatureKind_28 (by decide) ?_
          refine mn_icmp_eq (tgt := 39) dX12_ligatureKind_29 (by decide) (by omega) (by omega) (fun c29 => ?_) (fun c29 => ?_)
          · refine mm_iconst (v := nI 3) dX12_ligatureKind_39 (by decide) ?_
            exact mm_iret dX12_ligatureKind_40 rfl (⟨rfl, by unfold lgK; rw [if_pos (by omega)]⟩)
          · refine mm_iload_n dX12_ligatureKind_32 rfl 3 rfl ?_
            refine mm_iload_n dX12_ligatureKind_33 rfl 2 rfl ?_
            refine mm_iconst (v := nI 1) dX12_ligatureKind_34 (by decide) ?_
            refine mn_isub dX12_ligatureKind_35 (by omega) ?_
            refine mn_icmp_ge (tgt := 41) dX12_ligatureKind_36 (by decide) (by omega) (by omega) (fun c36 => ?_) (fun c36 => ?_)
            · refine mm_iload_n dX12_ligatureKind_41 rfl 3 rfl ?_
              refine mn_if_ne (tgt := 82) dX12_ligatureKind_42 (by decide) (by omega) (fun c42 => ?_) (fun c42 => ?_)
              · refine mm_iload_n dX12_ligatureKind_82 rfl 3 rfl ?_
                refine mm_iload_n dX12_ligatureKind_83 rfl 2 rfl ?_
                refine mm_iconst (v := nI 1) dX12_ligatureKind_84 (by decide) ?_
                refine mn_isub dX12_ligatureKind_85 (by omega) ?_
                refine mn_icmp_ge (tgt := 91) dX12_ligatureKind_86 (by decide) (by omega) (by omega) (fun c86 => ?_) (fun c86 => ?_)
                · refine mm_iload_n dX12_ligatureKind_91 rfl 1 rfl ?_
                  refine mm_bipush (v := nI 8) dX12_ligatureKind_92 (by decide) ?_
                  refine mm_iand dX12_ligatureKind_94 ?_
                  refine mn_top (u := .int (nI (8 * (sh / 8 % 2)))) (congrArg Value.int (by rw [bI_and, and_8])) ?_
                  refine mn_if_eq (tgt := 102) dX12_ligatureKind_95 (by decide) (by omega) (fun c95 => ?_) (fun c95 => ?_)
                  · refine mm_iload_n dX12_ligatureKind_102 rfl 1 rfl ?_
                    refine mm_iconst (v := nI 4) dX12_ligatureKind_103 (by decide) ?_
                    refine mm_iand dX12_ligatureKind_104 ?_
                    refine mn_top (u := .int (nI (4 * (sh / 4 % 2)))) (congrArg Value.int (by rw [bI_and, and_4])) ?_
                    refine mn_if_eq (tgt := 112) dX12_ligatureKind_105 (by decide) (by omega) (fun c105 => ?_) (fun c105 => ?_)
                    · refine mm_iload dX12_ligatureKind_112 5 rfl ?_
                      refine mn_ifB_eq (tgt := 121) dX12_ligatureKind_114 (by decide) (fun c114 => ?_) (fun c114 => ?_)
                      · refine mm_iconst (v := nI 2) dX12_ligatureKind_121 (by decide) ?_
                        exact mm_iret dX12_ligatureKind_122 rfl (⟨rfl, by unfold lgK; rw [if_neg (by omega), if_neg (by omega), if_neg (by omega), if_neg (by omega), if_neg (by omega), if_neg (by rw [c114]; decide)]⟩)
                      · refine mm_iconst (v := nI 1) dX12_ligatureKind_117 (by decide) ?_
                        refine mm_goto (tgt := 122) dX12_ligatureKind_118 (by decide) ?_
                        exact mm_iret dX12_ligatureKind_122 rfl (⟨rfl, by unfold lgK; rw [if_neg (by omega), if_neg (by omega), if_neg (by omega), if_neg (by omega), if_neg (by omega), if_pos c114]⟩)
                    · refine mm_iconst (v := nI 2) dX12_ligatureKind_108 (by decide) ?_
                      refine mm_goto (tgt := 122) dX12_ligatureKind_109 (by decide) ?_
                      exact mm_iret dX12_ligatureKind_122 rfl (⟨rfl, by unfold lgK; rw [if_neg (by omega), if_neg (by omega), if_neg (by omega), if_neg (by omega), if_pos (by omega)]⟩)
                  · refine mm_iconst (v := nI 1) dX12_ligatureKind_98 (by decide) ?_
                    refine mm_goto (tgt := 122) dX12_ligatureKind_99 (by decide) ?_
                    exact mm_iret dX12_ligatureKind_122 rfl (⟨rfl, by unfold lgK; rw [if_neg (by omega), if_neg (by omega), if_neg (by omega), if_pos (by omega)]⟩)
                · refine mm_iconst (v := nI 2) dX12_ligatureKind_89 (by decide) ?_
                  exact mm_iret dX12_ligatureKind_90 rfl (⟨rfl, by unfold lgK; rw [if_neg (by omega), if_neg (by omega), if_pos (by omega)]⟩)
              · refine mm_iload_n dX12_ligatureKind_45 rfl 1 rfl ?_
                refine mm_iconst (v := nI 1) dX12_ligatureKind_46 (by decide) ?_
                refine mm_iand dX12_ligatureKind_47 ?_
                refine mn_top (u := .int (nI (sh % 2))) (congrArg Value.int (by rw [bI_and, and_1])) ?_
                refine mn_if_eq (tgt := 55) dX12_ligatureKind_48 (by decide) (by omega) (fun c48 => ?_) (fun c48 => ?_)
                · refine mm_iconst (v := nI 0) dX12_ligatureKind_55 (by decide) ?_
                  refine mm_istore (L' := [(6, .int (nI (0))), (5, .int (nI (1))), (0, .int (nI (sh))), (1, .int (nI (n))), (2, .int (nI (i))), (3, .int (nI (Bool.toNat (lgF x 1)))), (4, .int (nI (Bool.toNat (lgF x (n - 1)))))]) dX12_ligatureKind_56 (by decide) rfl ?_
                  refine mm_iload dX12_ligatureKind_58 0 rfl ?_
                  refine mn_if_eq (tgt := 67) dX12_ligatureKind_60 (by decide) (by omega) (fun c60 => ?_) (fun c60 => ?_)
                  · refine mm_iload dX12_ligatureKind_67 0 rfl ?_
                    refine mn_if_ne (tgt := 80) dX12_ligatureKind_69 (by decide) (by omega) (fun c69 => ?_) (fun c69 => ?_)
                    · exact absurd rfl c69
                    · refine mm_iload_n dX12_ligatureKind_72 rfl 5 rfl ?_
                      refine mn_ifB_ne (tgt := 80) dX12_ligatureKind_73 (by decide) (fun c73 => ?_) (fun c73 => ?_)
                      · refine mm_iconst (v := nI 1) dX12_ligatureKind_80 (by decide) ?_
                        exact mm_iret dX12_ligatureKind_81 rfl (⟨rfl, by unfold lgK; rw [if_neg (by omega), if_pos (by omega), c73, decide_eq_false (show ¬ sh % 2 = 1 by omega)]; rfl⟩)
                      · refine mm_iconst (v := nI 2) dX12_ligatureKind_76 (by decide) ?_
                        refine mm_goto (tgt := 81) dX12_ligatureKind_77 (by decide) ?_
                        exact mm_iret dX12_ligatureKind_81 rfl (⟨rfl, by unfold lgK; rw [if_neg (by omega), if_pos (by omega), c73, decide_eq_false (show ¬ sh % 2 = 1 by omega)]; rfl⟩)
                  · exact absurd rfl c60
                · refine mm_iconst (v := nI 1) dX12_ligatureKind_51 (by decide) ?_
                  refine mm_goto (tgt := 56) dX12_ligatureKind_52 (by decide) ?_
                  refine mm_istore (L' := [(6, .int (nI (1))), (5, .int (nI (1))), (0, .int (nI (sh))), (1, .int (nI (n))), (2, .int (nI (i))), (3, .int (nI (Bool.toNat (lgF x 1)))), (4, .int (nI (Bool.toNat (lgF x (n - 1)))))]) dX12_ligatureKind_56 (by decide) rfl ?_
                  refine mm_iload dX12_ligatureKind_58 0 rfl ?_
                  refine mn_if_eq (tgt := 67) dX12_ligatureKind_60 (by decide) (by omega) (fun c60 => ?_) (fun c60 => ?_)
                  · exact absurd c60 (by decide)
                  · refine mm_iload_n dX12_ligatureKind_63 rfl 5 rfl ?_
                    refine mn_ifB_ne (tgt := 76) dX12_ligatureKind_64 (by decide) (fun c64 => ?_) (fun c64 => ?_)
                    · refine mm_iconst (v := nI 2) dX12_ligatureKind_76 (by decide) ?_
                      refine mm_goto (tgt := 81) dX12_ligatureKind_77 (by decide) ?_
                      exact mm_iret dX12_ligatureKind_81 rfl (⟨rfl, by unfold lgK; rw [if_neg (by omega), if_pos (by omega), c64, decide_eq_true (show sh % 2 = 1 by omega)]; rfl⟩)
                    · refine mm_iload dX12_ligatureKind_67 0 rfl ?_
                      refine mn_if_ne (tgt := 80) dX12_ligatureKind_69 (by decide) (by omega) (fun c69 => ?_) (fun c69 => ?_)
                      · refine mm_iconst (v := nI 1) dX12_ligatureKind_80 (by decide) ?_
                        exact mm_iret dX12_ligatureKind_81 rfl (⟨rfl, by unfold lgK; rw [if_neg (by omega), if_pos (by omega), c64, decide_eq_true (show sh % 2 = 1 by omega)]; rfl⟩)
                      · exact absurd c69 (by decide)
            · refine mm_iconst (v := nI 3) dX12_ligatureKind_39 (by decide) ?_
              exact mm_iret dX12_ligatureKind_40 rfl (⟨rfl, by unfold lgK; rw [if_pos (by omega)]⟩)
set_option maxRecDepth 100000 in
set_option maxHeartbeats 4000000 in
theorem tM_ligB1 {l : Launch} {D : va_G} {aa : Nat → ClassId} {b0 : Nat} {h : mm_H} {o : Nat} {F : Nat → Int32} {G : Nat → Int64} {A : Nat → Nat → Int32} {B : Nat → Nat → Int64} {s : aS} {n : Nat} {x : Int64} {sh m : Int32} (ha : rm_at o F G A B h) (hW : WF s) (hI : RI s F A B) (hn : n < aNv s) (hb : ¬ ((0 : Int) ≤ sh.toInt ∧ sh.toInt ≤ 15)) : mm_V (zz_K l D aa b0) 3 yX12_ligature cX12_ligature 11 (some .int) 0 [(0, .ref (o)), (1, .int (nI (n))), (2, .int (sh)), (3, .int (m)), (4, .long (x))] [] h 0 0 (fun r h' => h' = h ∧ r = some (.int (-2))) := by
  have hf : rm_fr o h h := rm_fr.rf
  have hn6 : n < 6 := by have := hW.1.1; omega
  have hvok := hW.2.1 n hn6
  have hsz24 : aSz s n ≤ 24 := hvok.1.2
  obtain ⟨⟨v1, w1⟩, ⟨v2, w2⟩, ⟨v3, w3⟩, ⟨v4, w4⟩, v5, w5⟩ := hI.1.2 n hn6
  refine mm_aload_n dX12_ligature_0 rfl 0 rfl ?_
  refine mm_iload_n dX12_ligature_1 rfl 1 rfl ?_
  refine rm_callVr (As := [.int (nI (n))]) (rest := []) (d2 := 1) dX12_ligature_2 ha zc_isVoice zc_isVoice_s rfl rfl rfl (Nat.le_of_ble_eq_true rfl) (Nat.le_of_ble_eq_true rfl) (by decide) (tM_isVoice ha hW hI (nI_inb hn (by have := hW.1.1; omega))) ?_
  refine mn_ifB_eq (tgt := 34) dX12_ligature_5 (by decide) (fun c5 => ?_) (fun c5 => ?_)
  · cases c5
  · refine mm_iload_n dX12_ligature_8 rfl 2 rfl ?_
    refine mm_i2l dX12_ligature_9 ?_
    refine mm_lconst (v := lN 0) dX12_ligature_10 (by decide) ?_
    refine mm_ldc2 (v := (15)) dX12_ligature_11 zk_123 ?_
    refine mn_top (u := .long (lN (15))) (congrArg Value.long (by decide)) ?_
    refine rm_callSr (As := [.long ((sh).toInt64), .long (lN (0)), .long (lN (15))]) (rest := []) (d2 := 0) dX12_ligature_14 zc_isIn rfl rfl (Nat.le_of_ble_eq_true rfl) (Nat.le_of_ble_eq_true rfl) (by decide) (tm_isIn _ _ _) ?_
    refine mn_top (u := .int (nI (Bool.toNat (false)))) (congrArg Value.int (in_f (a := 0) (b := 15) (by decide) (by decide) (by omega) (by omega) (hb))) ?_
    refine mn_ifB_eq (tgt := 34) dX12_ligature_17 (by decide) (fun c17 => ?_) (fun c17 => ?_)
    · refine mm_bipush (v := (-2)) dX12_ligature_34 (by decide) ?_
      exact mm_iret dX12_ligature_36 rfl (⟨rfl, rfl⟩)
    · cases c17
set_option maxRecDepth 100000 in
set_option maxHeartbeats 4000000 in
theorem tM_ligB2 {l : Launch} {D : va_G} {aa : Nat → ClassId} {b0 : Nat} {h : mm_H} {o : Nat} {F : Nat → Int32} {G : Nat → Int64} {A : Nat → Nat → Int32} {B : Nat → Nat → Int64} {s : aS} {n : Nat} {x : Int64} {sh m : Int32} (ha : rm_at o F G A B h) (hW : WF s) (hI : RI s F A B) (hn : n < aNv s) (hs : (0 : Int) ≤ sh.toInt ∧ sh.toInt ≤ 15) (hb : ¬ ((2 : Int) ≤ m.toInt ∧ m.toInt ≤ 8)) : mm_V (zz_K l D aa b0) 3 yX12_ligature cX12_ligature 11 (some .int) 0 [(0, .ref (o)), (1, .int (nI (n))), (2, .int (sh)), (3, .int (m)), (4, .long (x))] [] h 0 0 (fun r h' => h' = h ∧ r = some (.int (-2))) := by
  have hf : rm_fr o h h := rm_fr.rf
  have hn6 : n < 6 := by have := hW.1.1; omega
  have hvok := hW.2.1 n hn6
  have hsz24 : aSz s n ≤ 24 := hvok.1.2
  obtain ⟨⟨v1, w1⟩, ⟨v2, w2⟩, ⟨v3, w3⟩, ⟨v4, w4⟩, v5, w5⟩ := hI.1.2 n hn6
  refine mm_aload_n dX12_ligature_0 rfl 0 rfl ?_
  refine mm_iload_n dX12_ligature_1 rfl 1 rfl ?_
  refine rm_callVr (As := [.int (nI (n))]) (rest := []) (d2 := 1) dX12_ligature_2 ha zc_isVoice zc_isVoice_s rfl rfl rfl (Nat.le_of_ble_eq_true rfl) (Nat.le_of_ble_eq_true rfl) (by decide) (tM_isVoice ha hW hI (nI_inb hn (by have := hW.1.1; omega))) ?_
  refine mn_ifB_eq (tgt := 34) dX12_ligature_5 (by decide) (fun c5 => ?_) (fun c5 => ?_)
  · cases c5
  · refine mm_iload_n dX12_ligature_8 rfl 2 rfl ?_
    refine mm_i2l dX12_ligature_9 ?_
    refine mm_lconst (v := lN 0) dX12_ligature_10 (by decide) ?_
    refine mm_ldc2 (v := (15)) dX12_ligature_11 zk_123 ?_
    refine mn_top (u := .long (lN (15))) (congrArg Value.long (by decide)) ?_
    refine rm_callSr (As := [.long ((sh).toInt64), .long (lN (0)), .long (lN (15))]) (rest := []) (d2 := 0) dX12_ligature_14 zc_isIn rfl rfl (Nat.le_of_ble_eq_true rfl) (Nat.le_of_ble_eq_true rfl) (by decide) (tm_isIn _ _ _) ?_
    refine mn_top (u := .int (nI (Bool.toNat (true)))) (congrArg Value.int (in_t (a := 0) (b := 15) (by decide) (by decide) (by omega) (by omega) (hs))) ?_
    refine mn_ifB_eq (tgt := 34) dX12_ligature_17 (by decide) (fun c17 => ?_) (fun c17 => ?_)
    · cases c17
    · refine mm_iload_n dX12_ligature_20 rfl 3 rfl ?_
      refine mm_i2l dX12_ligature_21 ?_
      refine mm_ldc2 (v := (2)) dX12_ligature_22 zk_143 ?_
      refine mn_top (u := .long (lN (2))) (congrArg Value.long (by decide)) ?_
      refine mm_ldc2 (v := (8)) dX12_ligature_25 zk_145 ?_
      refine mn_top (u := .long (lN (8))) (congrArg Value.long (by decide)) ?_
      refine rm_callSr (As := [.long ((m).toInt64), .long (lN (2)), .long (lN (8))]) (rest := []) (d2 := 0) dX12_ligature_28 zc_isIn rfl rfl (Nat.le_of_ble_eq_true rfl) (Nat.le_of_ble_eq_true rfl) (by decide) (tm_isIn _ _ _) ?_
      refine mn_top (u := .int (nI (Bool.toNat (false)))) (congrArg Value.int (in_f (a := 2) (b := 8) (by decide) (by decide) (by omega) (by omega) (hb))) ?_
      refine mn_ifB_ne (tgt := 37) dX12_ligature_31 (by decide) (fun c31 => ?_) (fun c31 => ?_)
      · cases c31
      · refine mm_bipush (v := (-2)) dX12_ligature_34 (by decide) ?_
        exact mm_iret dX12_ligature_36 rfl (⟨rfl, rfl⟩)
set_option maxRecDepth 100000 in
set_option maxHeartbeats 4000000 in
theorem tM_ligP {l : Launch} {D : va_G} {aa : Nat → ClassId} {b0 : Nat} {h : mm_H} {o : Nat} {F : Nat → Int32} {G : Nat → Int64} {A : Nat → Nat → Int32} {B : Nat → Nat → Int64} {s : aS} {n : Nat} {x : Int64} {sh m : Nat} (ha : rm_at o F G A B h) (hW : WF s) (hI : RI s F A B) (hn : n < aNv s) (hsh : sh < 16) (hm : 2 ≤ m ∧ m ≤ 8) (hP : ¬ lgP x m) : mm_V (zz_K l D aa b0) 3 yX12_ligature cX12_ligature 11 (some .int) 0 [(0, .ref (o)), (1, .int (nI (n))), (2, .int (nI (sh))), (3, .int (nI (m))), (4, .long (x))] [] h 0 0 (fun r h' => h' = h ∧ r = some (.int (-2))) := by
  have hf : rm_fr o h h := rm_fr.rf
  have hn6 : n < 6 := by have := hW.1.1; omega
  have hvok := hW.2.1 n hn6
  have hsz24 : aSz s n ≤ 24 := hvok.1.2
  obtain ⟨⟨v1, w1⟩, ⟨v2, w2⟩, ⟨v3, w3⟩, ⟨v4, w4⟩, v5, w5⟩ := hI.1.2 n hn6
  have j126 : mm_V (zz_K l D aa b0) 3 yX12_ligature cX12_ligature 11 (some .int) 126 [(8, .int (nI (m))), (7, .int (nI (Bool.toNat (lgDb x m)))), (6, .int (nI (Bool.toNat (lgPb x m)))), (0, .ref (o)), (1, .int (nI (n))), (2, .int (nI (sh))), (3, .int (nI (m))), (4, .long (x))] [] h 0 0 (fun r h' => h' = h ∧ r = some (.int (-2))) := by
    refine mm_iload dX12_ligature_126 2 rfl ?_
    refine mn_ifB_ne (tgt := 134) dX12_ligature_128 (by decide) (fun c128 => ?_) (fun c128 => ?_)
    · exact absurd ((lgPb_t m).mp c128) hP
    · refine mm_bipush (v := (-2)) dX12_ligature_131 (by decide) ?_
      exact mm_iret dX12_ligature_133 rfl (⟨rfl, rfl⟩)
  have lp0 : ∀ (c k : Nat), k + c = m → mm_V (zz_K l D aa b0) 3 yX12_ligature cX12_ligature 11 (some .int) 46 [(8, .int (nI (k))), (7, .int (nI (Bool.toNat (lgDb x k)))), (6, .int (nI (Bool.toNat (lgPb x k)))), (0, .ref (o)), (1, .int (nI (n))), (2, .int (nI (sh))), (3, .int (nI (m))), (4, .long (x))] [] h 0 0 (fun r h' => h' = h ∧ r = some (.int (-2))) := by
    intro c
    induction c with
    | zero =>
      intro k hk
      refine mm_iload dX12_ligature_46 0 rfl ?_
      refine mm_iload_n dX12_ligature_48 rfl 6 rfl ?_
      refine mn_icmp_ge (tgt := 126) dX12_ligature_49 (by decide) (by omega) (by omega) (fun c49 => ?_) (fun c49 => ?_)
      · have e : k = m := by omega
        rw [e]
        exact j126
      · omega
    | succ c ih =>
      intro k hk
      have p1 : lgPb x (k + 1) = (lgPb x k && decide ((-40) ≤ ptc x k ∧ ptc x k ≤ nI 40)) := rfl
      have p2 : lgDb x (k + 1) = (lgDb x k && (decide (k = 0) || decide (ptc x k ≠ ptc x (k - 1)))) := rfl
      have j84 : mm_V (zz_K l D aa b0) 3 yX12_ligature cX12_ligature 11 (some .int) 84 [(8, .int (nI (k))), (7, .int (nI (Bool.toNat (lgDb x k)))), (6, .int (nI (Bool.toNat (lgPb x (k + 1))))), (0, .ref (o)), (1, .int (nI (n))), (2, .int (nI (sh))), (3, .int (nI (m))), (4, .long (x))] [] h 0 0 (fun r h' => h' = h ∧ r = some (.int (-2))) := by
        refine mm_iload dX12_ligature_84 1 rfl ?_
        refine mn_ifB_eq (tgt := 117) dX12_ligature_86 (by decide) (fun c86 => ?_) (fun c86 => ?_)
        · refine mm_iconst (v := nI 0) dX12_ligature_117 (by decide) ?_
          refine mn_top (u := .int (nI (Bool.toNat (lgDb x (k + 1))))) (congrArg Value.int (by rw [p2, c86]; rfl)) ?_
          refine mm_istore (L' := [(7, .int (nI (Bool.toNat (lgDb x (k + 1))))), (8, .int (nI (k))), (6, .int (nI (Bool.toNat (lgPb x (k + 1))))), (0, .ref (o)), (1, .int (nI (n))), (2, .int (nI (sh))), (3, .int (nI (m))), (4, .long (x))]) dX12_ligature_118 (by decide) rfl ?_
          refine mn_iinc (m := 1) (L' := [(8, .int (nI (k + 1))), (7, .int (nI (Bool.toNat (lgDb x (k + 1))))), (6, .int (nI (Bool.toNat (lgPb x (k + 1))))), (0, .ref (o)), (1, .int (nI (n))), (2, .int (nI (sh))), (3, .int (nI (m))), (4, .long (x))]) dX12_ligature_120 (by decide) 1 rfl (by decide) rfl ?_
          refine mm_goto (tgt := 46) dX12_ligature_123 (by decide) ?_
          refine mn_sub [0, 1, 2, 3, 4, 5, 6, 7] rfl ?_
          exact ih (k + 1) (by omega)
        · refine mm_iload dX12_ligature_89 0 rfl ?_
          refine mn_if_eq (tgt := 113) dX12_ligature_91 (by decide) (by omega) (fun c91 => ?_) (fun c91 => ?_)
          · refine mm_iconst (v := nI 1) dX12_ligature_113 (by decide) ?_
            refine mm_goto (tgt := 118) dX12_ligature_114 (by decide) ?_
            refine mn_top (u := .int (nI (Bool.toNat (lgDb x (k + 1))))) (congrArg Value.int (by rw [p2, c86, decide_eq_true (show k = 0 from c91)]; rfl)) ?_
            refine mm_istore (L' := [(7, .int (nI (Bool.toNat (lgDb x (k + 1))))), (8, .int (nI (k))), (6, .int (nI (Bool.toNat (lgPb x (k + 1))))), (0, .ref (o)), (1, .int (nI (n))), (2, .int (nI (sh))), (3, .int (nI (m))), (4, .long (x))]) dX12_ligature_118 (by decide) rfl ?_
            refine mn_iinc (m := 1) (L' := [(8, .int (nI (k + 1))), (7, .int (nI (Bool.toNat (lgDb x (k + 1))))), (6, .int (nI (Bool.toNat (lgPb x (k + 1))))), (0, .ref (o)), (1, .int (nI (n))), (2, .int (nI (sh))), (3, .int (nI (m))), (4, .long (x))]) dX12_ligature_120 (by decide) 1 rfl (by decide) rfl ?_
            refine mm_goto (tgt := 46) dX12_ligature_123 (by decide) ?_
            refine mn_sub [0, 1, 2, 3, 4, 5, 6, 7] rfl ?_
            exact ih (k + 1) (by omega)
          · refine mm_lload dX12_ligature_94 7 rfl ?_
            refine mm_iload dX12_ligature_96 0 rfl ?_
            refine rm_callSr (As := [.long (x), .int (nI (k))]) (rest := []) (d2 := 0) dX12_ligature_98 zc_pitchIn rfl rfl (Nat.le_of_ble_eq_true rfl) (Nat.le_of_ble_eq_true rfl) (by decide) (tl_pitchIn (x := x) (k := k) (by omega)) ?_
            refine mm_lload dX12_ligature_101 7 rfl ?_
            refine mm_iload dX12_ligature_103 0 rfl ?_
            refine mm_iconst (v := nI 1) dX12_ligature_105 (by decide) ?_
            refine mn_isub dX12_ligature_106 (by omega) ?_
            refine rm_callSr (As := [.long (x), .int (nI ((k) - (1)))]) (rest := [.int (ptc x (k))]) (d2 := 0) dX12_ligature_107 zc_pitchIn rfl rfl (Nat.le_of_ble_eq_true rfl) (Nat.le_of_ble_eq_true rfl) (by decide) (tl_pitchIn (x := x) (k := (k) - (1)) (by omega)) ?_
            refine mm_icmp_eq (tgt := 117) dX12_ligature_110 (by decide) (fun c110 => ?_) (fun c110 => ?_)
            · refine mm_iconst (v := nI 0) dX12_ligature_117 (by decide) ?_
              refine mn_top (u := .int (nI (Bool.toNat (lgDb x (k + 1))))) (congrArg Value.int (by rw [p2, c86, decide_eq_false (show ¬ k = 0 from c91), decide_eq_false (fun q => q c110)]; rfl)) ?_
              refine mm_istore (L' := [(7, .int (nI (Bool.toNat (lgDb x (k + 1))))), (8, .int (nI (k))), (6, .int (nI (Bool.toNat (lgPb x (k + 1))))), (0, .ref (o)), (1, .int (nI (n))), (2, .int (nI (sh))), (3, .int (nI (m))), (4, .long (x))]) dX12_ligature_118 (by decide) rfl ?_
              refine mn_iinc (m := 1) (L' := [(8, .int (nI (k + 1))), (7, .int (nI (Bool.toNat (lgDb x (k + 1))))), (6, .int (nI (Bool.toNat (lgPb x (k + 1))))), (0, .ref (o)), (1, .int (nI (n))), (2, .int (nI (sh))), (3, .int (nI (m))), (4, .long (x))]) dX12_ligature_120 (by decide) 1 rfl (by decide) rfl ?_
              refine mm_goto (tgt := 46) dX12_ligature_123 (by decide) ?_
              refine mn_sub [0, 1, 2, 3, 4, 5, 6, 7] rfl ?_
              exact ih (k + 1) (by omega)
            · refine mm_iconst (v := nI 1) dX12_ligature_113 (by decide) ?_
              refine mm_goto (tgt := 118) dX12_ligature_114 (by decide) ?_
              refine mn_top (u := .int (nI (Bool.toNat (lgDb x (k + 1))))) (congrArg Value.int (by rw [p2, c86, decide_eq_false (show ¬ k = 0 from c91), decide_eq_true c110]; rfl)) ?_
              refine mm_istore (L' := [(7, .int (nI (Bool.toNat (lgDb x (k + 1))))), (8, .int (nI (k))), (6, .int (nI (Bool.toNat (lgPb x (k + 1))))), (0, .ref (o)), (1, .int (nI (n))), (2, .int (nI (sh))), (3, .int (nI (m))), (4, .long (x))]) dX12_ligature_118 (by decide) rfl ?_
              refine mn_iinc (m := 1) (L' := [(8, .int (nI (k + 1))), (7, .int (nI (Bool.toNat (lgDb x (k + 1))))), (6, .int (nI (Bool.toNat (lgPb x (k + 1))))), (0, .ref (o)), (1, .int (nI (n))), (2, .int (nI (sh))), (3, .int (nI (m))), (4, .long (x))]) dX12_ligature_120 (by decide) 1 rfl (by decide) rfl ?_
              refine mm_goto (tgt := 46) dX12_ligature_123 (by decide) ?_
              refine mn_sub [0, 1, 2, 3, 4, 5, 6, 7] rfl ?_
              exact ih (k + 1) (by omega)
      refine mm_iload dX12_ligature_46 0 rfl ?_
      refine mm_iload_n dX12_ligature_48 rfl 6 rfl ?_
      refine mn_icmp_ge (tgt := 126) dX12_ligature_49 (by decide) (by omega) (by omega) (fun c49 => ?_) (fun c49 => ?_)
      · omega
      · refine mm_iload dX12_ligature_52 2 rfl ?_
        refine mn_ifB_eq (tgt := 81) dX12_ligature_54 (by decide) (fun c54 => ?_) (fun c54 => ?_)
        · refine mm_iconst (v := nI 0) dX12_ligature_81 (by decide) ?_
          refine mn_top (u := .int (nI (Bool.toNat (lgPb x (k + 1))))) (congrArg Value.int (by rw [p1, c54]; rfl)) ?_
          refine mm_istore (L' := [(6, .int (nI (Bool.toNat (lgPb x (k + 1))))), (8, .int (nI (k))), (7, .int (nI (Bool.toNat (lgDb x k)))), (0, .ref (o)), (1, .int (nI (n))), (2, .int (nI (sh))), (3, .int (nI (m))), (4, .long (x))]) dX12_ligature_82 (by decide) rfl ?_
          refine mn_sub [1, 2, 0, 3, 4, 5, 6, 7] rfl ?_
          exact j84
        · refine mm_lload dX12_ligature_57 7 rfl ?_
          refine mm_iload dX12_ligature_59 0 rfl ?_
          refine rm_callSr (As := [.long (x), .int (nI (k))]) (rest := []) (d2 := 0) dX12_ligature_61 zc_pitchIn rfl rfl (Nat.le_of_ble_eq_true rfl) (Nat.le_of_ble_eq_true rfl) (by decide) (tl_pitchIn (x := x) (k := k) (by omega)) ?_
          refine mm_i2l dX12_ligature_64 ?_
          refine mm_ldc2 (v := (-40)) dX12_ligature_65 zk_135 ?_
          refine mm_ldc2 (v := (40)) dX12_ligature_68 zk_137 ?_
          refine mn_top (u := .long (lN (40))) (congrArg Value.long (by decide)) ?_
          by_cases hp : (-40) ≤ ptc x k ∧ ptc x k ≤ nI 40
          · refine rm_callSr (As := [.long ((ptc x (k)).toInt64), .long ((-40)), .long (lN (40))]) (rest := []) (d2 := 0) dX12_ligature_71 zc_isIn rfl rfl (Nat.le_of_ble_eq_true rfl) (Nat.le_of_ble_eq_true rfl) (by decide) (tm_isIn _ _ _) ?_
            refine mn_top (u := .int (nI (Bool.toNat (true)))) (congrArg Value.int (in_t (a := -40) (b := 40) (by decide) (by decide) (by omega) (by omega) ((i32_pi hp).2))) ?_
            refine mn_ifB_eq (tgt := 81) dX12_ligature_74 (by decide) (fun c74 => ?_) (fun c74 => ?_)
            · cases c74
            · refine mm_iconst (v := nI 1) dX12_ligature_77 (by decide) ?_
              refine mm_goto (tgt := 82) dX12_ligature_78 (by decide) ?_
              refine mn_top (u := .int (nI (Bool.toNat (lgPb x (k + 1))))) (congrArg Value.int (by rw [p1, c54, decide_eq_true hp]; rfl)) ?_
              refine mm_istore (L' := [(6, .int (nI (Bool.toNat (lgPb x (k + 1))))), (8, .int (nI (k))), (7, .int (nI (Bool.toNat (lgDb x k)))), (0, .ref (o)), (1, .int (nI (n))), (2, .int (nI (sh))), (3, .int (nI (m))), (4, .long (x))]) dX12_ligature_82 (by decide) rfl ?_
              refine mn_sub [1, 2, 0, 3, 4, 5, 6, 7] rfl ?_
              exact j84
          · refine rm_callSr (As := [.long ((ptc x (k)).toInt64), .long ((-40)), .long (lN (40))]) (rest := []) (d2 := 0) dX12_ligature_71 zc_isIn rfl rfl (Nat.le_of_ble_eq_true rfl) (Nat.le_of_ble_eq_true rfl) (by decide) (tm_isIn _ _ _) ?_
            refine mn_top (u := .int (nI (Bool.toNat (false)))) (congrArg Value.int (in_f (a := -40) (b := 40) (by decide) (by decide) (by omega) (by omega) (pi_to hp))) ?_
            refine mn_ifB_eq (tgt := 81) dX12_ligature_74 (by decide) (fun c74 => ?_) (fun c74 => ?_)
            · refine mm_iconst (v := nI 0) dX12_ligature_81 (by decide) ?_
              refine mn_top (u := .int (nI (Bool.toNat (lgPb x (k + 1))))) (congrArg Value.int (by rw [p1, c54, decide_eq_false hp]; rfl)) ?_
              refine mm_istore (L' := [(6, .int (nI (Bool.toNat (lgPb x (k + 1))))), (8, .int (nI (k))), (7, .int (nI (Bool.toNat (lgDb x k)))), (0, .ref (o)), (1, .int (nI (n))), (2, .int (nI (sh))), (3, .int (nI (m))), (4, .long (x))]) dX12_ligature_82 (by decide) rfl ?_
              refine mn_sub [1, 2, 0, 3, 4, 5, 6, 7] rfl ?_
              exact j84
            · cases c74
  refine mm_aload_n dX12_ligature_0 rfl 0 rfl ?_
  refine mm_iload_n dX12_ligature_1 rfl 1 rfl ?_
  refine rm_callVr (As := [.int (nI (n))]) (rest := []) (d2 := 1) dX12_ligature_2 ha zc_isVoice zc_isVoice_s rfl rfl rfl (Nat.le_of_ble_eq_true rfl) (Nat.le_of_ble_eq_true rfl) (by decide) (tM_isVoice ha hW hI (nI_inb hn (by have := hW.1.1; omega))) ?_
  refine mn_ifB_eq (tgt := 34) dX12_ligature_5 (by decide) (fun c5 => ?_) (fun c5 => ?_)
  · cases c5
  · refine mm_iload_n dX12_ligature_8 rfl 2 rfl ?_
    refine mm_i2l dX12_ligature_9 ?_
    refine mm_lconst (v := lN 0) dX12_ligature_10 (by decide) ?_
    refine mm_ldc2 (v := (15)) dX12_ligature_11 zk_123 ?_
    refine mn_top (u := .long (lN (15))) (congrArg Value.long (by decide)) ?_
    refine rm_callSr (As := [.long ((nI (sh)).toInt64), .long (lN (0)), .long (lN (15))]) (rest := []) (d2 := 0) dX12_ligature_14 zc_isIn rfl rfl (Nat.le_of_ble_eq_true rfl) (Nat.le_of_ble_eq_true rfl) (by decide) (tm_isIn _ _ _) ?_
    refine mn_top (u := .int (nI (Bool.toNat (true)))) (congrArg Value.int (in_t (a := 0) (b := 15) (by decide) (by decide) (by omega) (by omega) ((nI_inb hsh (by decide)).imp id (fun z => by omega)))) ?_
    refine mn_ifB_eq (tgt := 34) dX12_ligature_17 (by decide) (fun c17 => ?_) (fun c17 => ?_)
    · cases c17
    · refine mm_iload_n dX12_ligature_20 rfl 3 rfl ?_
      refine mm_i2l dX12_ligature_21 ?_
      refine mm_ldc2 (v := (2)) dX12_ligature_22 zk_143 ?_
      refine mn_top (u := .long (lN (2))) (congrArg Value.long (by decide)) ?_
      refine mm_ldc2 (v := (8)) dX12_ligature_25 zk_145 ?_
      refine mn_top (u := .long (lN (8))) (congrArg Value.long (by decide)) ?_
      refine rm_callSr (As := [.long ((nI (m)).toInt64), .long (lN (2)), .long (lN (8))]) (rest := []) (d2 := 0) dX12_ligature_28 zc_isIn rfl rfl (Nat.le_of_ble_eq_true rfl) (Nat.le_of_ble_eq_true rfl) (by decide) (tm_isIn _ _ _) ?_
      refine mn_top (u := .int (nI (Bool.toNat (true)))) (congrArg Value.int (in_t (a := 2) (b := 8) (by decide) (by decide) (by omega) (by omega) (by rw [nI_toInt (by omega)]; omega))) ?_
      refine mn_ifB_ne (tgt := 37) dX12_ligature_31 (by decide) (fun c31 => ?_) (fun c31 => ?_)
      · refine mm_iconst (v := nI 1) dX12_ligature_37 (by decide) ?_
        refine mm_istore (L' := [(6, .int (nI (1))), (0, .ref (o)), (1, .int (nI (n))), (2, .int (nI (sh))), (3, .int (nI (m))), (4, .long (x))]) dX12_ligature_38 (by decide) rfl ?_
        refine mm_iconst (v := nI 1) dX12_ligature_40 (by decide) ?_
        refine mm_istore (L' := [(7, .int (nI (1))), (6, .int (nI (1))), (0, .ref (o)), (1, .int (nI (n))), (2, .int (nI (sh))), (3, .int (nI (m))), (4, .long (x))]) dX12_ligature_41 (by decide) rfl ?_
        refine mm_iconst (v := nI 0) dX12_ligature_43 (by decide) ?_
        refine mm_istore (L' := [(8, .int (nI (0))), (7, .int (nI (1))), (6, .int (nI (1))), (0, .ref (o)), (1, .int (nI (n))), (2, .int (nI (sh))), (3, .int (nI (m))), (4, .long (x))]) dX12_ligature_44 (by decide) rfl ?_
        refine mn_sub [0, 1, 2, 3, 4, 5, 6, 7] rfl ?_
        exact lp0 m 0 (by omega)
      · cases c31
set_option maxRecDepth 100000 in
set_option maxHeartbeats 4000000 in
theorem tM_ligS {l : Launch} {D : va_G} {aa : Nat → ClassId} {b0 : Nat} {h : mm_H} {o : Nat} {F : Nat → Int32} {G : Nat → Int64} {A : Nat → Nat → Int32} {B : Nat → Nat → Int64} {s : aS} {n : Nat} {x : Int64} {sh m : Nat} (ha : rm_at o F G A B h) (hW : WF s) (hI : RI s F A B) (hn : n < aNv s) (hsh : sh < 16) (hm : 2 ≤ m ∧ m ≤ 8) (hP : lgP x m) (hS : ¬ lgS sh m x) : mm_V (zz_K l D aa b0) 3 yX12_ligature cX12_ligature 11 (some .int) 0 [(0, .ref (o)), (1, .int (nI (n))), (2, .int (nI (sh))), (3, .int (nI (m))), (4, .long (x))] [] h 0 0 (fun r h' => h' = h ∧ r = some (.int (-5))) := by
  have hf : rm_fr o h h := rm_fr.rf
  have hn6 : n < 6 := by have := hW.1.1; omega
  have hvok := hW.2.1 n hn6
  have hsz24 : aSz s n ≤ 24 := hvok.1.2
  obtain ⟨⟨v1, w1⟩, ⟨v2, w2⟩, ⟨v3, w3⟩, ⟨v4, w4⟩, v5, w5⟩ := hI.1.2 n hn6
  have j126 : mm_V (zz_K l D aa b0) 3 yX12_ligature cX12_ligature 11 (some .int) 126 [(8, .int (nI (m))), (7, .int (nI (Bool.toNat (lgDb x m)))), (6, .int (nI (Bool.toNat (lgPb x m)))), (0, .ref (o)), (1, .int (nI (n))), (2, .int (nI (sh))), (3, .int (nI (m))), (4, .long (x))] [] h 0 0 (fun r h' => h' = h ∧ r = some (.int (-5))) := by
    refine mm_iload dX12_ligature_126 2 rfl ?_
    refine mn_ifB_ne (tgt := 134) dX12_ligature_128 (by decide) (fun c128 => ?_) (fun c128 => ?_)
    · refine mm_lload dX12_ligature_134 7 rfl ?_
      refine mm_iload_n dX12_ligature_136 rfl 6 rfl ?_
      refine mm_iconst (v := nI 1) dX12_ligature_137 (by decide) ?_
      refine mn_isub dX12_ligature_138 (by omega) ?_
      refine rm_callSr (As := [.long (x), .int (nI ((m) - (1)))]) (rest := []) (d2 := 0) dX12_ligature_139 zc_pitchIn rfl rfl (Nat.le_of_ble_eq_true rfl) (Nat.le_of_ble_eq_true rfl) (by decide) (tl_pitchIn (x := x) (k := (m) - (1)) (by omega)) ?_
      refine mm_lload dX12_ligature_142 7 rfl ?_
      refine mm_iload_n dX12_ligature_144 rfl 6 rfl ?_
      refine mm_iconst (v := nI 2) dX12_ligature_145 (by decide) ?_
      refine mn_isub dX12_ligature_146 (by omega) ?_
      refine rm_callSr (As := [.long (x), .int (nI ((m) - (2)))]) (rest := [.int (ptc x ((m) - (1)))]) (d2 := 0) dX12_ligature_147 zc_pitchIn rfl rfl (Nat.le_of_ble_eq_true rfl) (Nat.le_of_ble_eq_true rfl) (by decide) (tl_pitchIn (x := x) (k := (m) - (2)) (by omega)) ?_
      refine mn_top (u := .int (ptc x (m - 1 - 1))) (congrArg Value.int (by rw [show m - 2 = m - 1 - 1 from by omega])) ?_
      refine mm_icmp_ge (tgt := 157) dX12_ligature_150 (by decide) (fun c150 => ?_) (fun c150 => ?_)
      · refine mm_iconst (v := nI 0) dX12_ligature_157 (by decide) ?_
        refine mn_top (u := .int (nI (Bool.toNat (lgF x (m - 1))))) (congrArg Value.int (by rw [show lgF x (m - 1) = false from decide_eq_false (fun q => i32_nle q c150)]; rfl)) ?_
        refine mm_istore (L' := [(8, .int (nI (Bool.toNat (lgF x (m - 1))))), (7, .int (nI (Bool.toNat (lgDb x m)))), (6, .int (nI (Bool.toNat (lgPb x m)))), (0, .ref (o)), (1, .int (nI (n))), (2, .int (nI (sh))), (3, .int (nI (m))), (4, .long (x))]) dX12_ligature_158 (by decide) rfl ?_
        refine mm_iload dX12_ligature_160 1 rfl ?_
        refine mn_ifB_eq (tgt := 183) dX12_ligature_162 (by decide) (fun c162 => ?_) (fun c162 => ?_)
        · refine mm_bipush (v := (-5)) dX12_ligature_183 (by decide) ?_
          exact mm_iret dX12_ligature_185 rfl (⟨rfl, rfl⟩)
        · refine mm_iload_n dX12_ligature_165 rfl 5 rfl ?_
          refine mm_iconst (v := nI 3) dX12_ligature_166 (by decide) ?_
          refine mm_iand dX12_ligature_167 ?_
          refine mn_top (u := .int (nI (sh % 4))) (congrArg Value.int (by rw [bI_and, and_3])) ?_
          refine mm_iconst (v := nI 3) dX12_ligature_168 (by decide) ?_
          refine mn_icmp_eq (tgt := 183) dX12_ligature_169 (by decide) (by omega) (by omega) (fun c169 => ?_) (fun c169 => ?_)
          · refine mm_bipush (v := (-5)) dX12_ligature_183 (by decide) ?_
            exact mm_iret dX12_ligature_185 rfl (⟨rfl, rfl⟩)
          · refine mm_iload_n dX12_ligature_172 rfl 5 rfl ?_
            refine mm_iconst (v := nI 4) dX12_ligature_173 (by decide) ?_
            refine mm_iand dX12_ligature_174 ?_
            refine mn_top (u := .int (nI (4 * (sh / 4 % 2)))) (congrArg Value.int (by rw [bI_and, and_4])) ?_
            refine mn_if_eq (tgt := 186) dX12_ligature_175 (by decide) (by omega) (fun c175 => ?_) (fun c175 => ?_)
            · exact absurd ⟨(lgDb_t m).mp c162, c169, fun q => by omega⟩ hS
            · refine mm_iload dX12_ligature_178 0 rfl ?_
              refine mn_ifB_ne (tgt := 186) dX12_ligature_180 (by decide) (fun c180 => ?_) (fun c180 => ?_)
              · exact absurd ⟨(lgDb_t m).mp c162, c169, fun q => by rw [q.2] at c180; cases c180⟩ hS
              · refine mm_bipush (v := (-5)) dX12_ligature_183 (by decide) ?_
                exact mm_iret dX12_ligature_185 rfl (⟨rfl, rfl⟩)
      · refine mm_iconst (v := nI 1) dX12_ligature_153 (by decide) ?_
        refine mm_goto (tgt := 158) dX12_ligature_154 (by decide) ?_
        refine mn_top (u := .int (nI (Bool.toNat (lgF x (m - 1))))) (congrArg Value.int (by rw [show lgF x (m - 1) = true from decide_eq_true (Int32.not_le.mp c150)]; rfl)) ?_
        refine mm_istore (L' := [(8, .int (nI (Bool.toNat (lgF x (m - 1))))), (7, .int (nI (Bool.toNat (lgDb x m)))), (6, .int (nI (Bool.toNat (lgPb x m)))), (0, .ref (o)), (1, .int (nI (n))), (2, .int (nI (sh))), (3, .int (nI (m))), (4, .long (x))]) dX12_ligature_158 (by decide) rfl ?_
        refine mm_iload dX12_ligature_160 1 rfl ?_
        refine mn_ifB_eq (tgt := 183) dX12_ligature_162 (by decide) (fun c162 => ?_) (fun c162 => ?_)
        · refine mm_bipush (v := (-5)) dX12_ligature_183 (by decide) ?_
          exact mm_iret dX12_ligature_185 rfl (⟨rfl, rfl⟩)
        · refine mm_iload_n dX12_ligature_165 rfl 5 rfl ?_
          refine mm_iconst (v := nI 3) dX12_ligature_166 (by decide) ?_
          refine mm_iand dX12_ligature_167 ?_
          refine mn_top (u := .int (nI (sh % 4))) (congrArg Value.int (by rw [bI_and, and_3])) ?_
          refine mm_iconst (v := nI 3) dX12_ligature_168 (by decide) ?_
          refine mn_icmp_eq (tgt := 183) dX12_ligature_169 (by decide) (by omega) (by omega) (fun c169 => ?_) (fun c169 => ?_)
          · refine mm_bipush (v := (-5)) dX12_ligature_183 (by decide) ?_
            exact mm_iret dX12_ligature_185 rfl (⟨rfl, rfl⟩)
          · refine mm_iload_n dX12_ligature_172 rfl 5 rfl ?_
            refine mm_iconst (v := nI 4) dX12_ligature_173 (by decide) ?_
            refine mm_iand dX12_ligature_174 ?_
            refine mn_top (u := .int (nI (4 * (sh / 4 % 2)))) (congrArg Value.int (by rw [bI_and, and_4])) ?_
            refine mn_if_eq (tgt := 186) dX12_ligature_175 (by decide) (by omega) (fun c175 => ?_) (fun c175 => ?_)
            · exact absurd ⟨(lgDb_t m).mp c162, c169, fun q => by omega⟩ hS
            · refine mm_iload dX12_ligature_178 0 rfl ?_
              refine mn_ifB_ne (tgt := 186) dX12_ligature_180 (by decide) (fun c180 => ?_) (fun c180 => ?_)
              · exact absurd ⟨(lgDb_t m).mp c162, c169, fun q => by rw [q.2] at c180; cases c180⟩ hS
              · refine mm_bipush (v := (-5)) dX12_ligature_183 (by decide) ?_
                exact mm_iret dX12_ligature_185 rfl (⟨rfl, rfl⟩)
    · rw [(lgPb_t m).mpr hP] at c128; cases c128
  have lp0 : ∀ (c k : Nat), k + c = m → mm_V (zz_K l D aa b0) 3 yX12_ligature cX12_ligature 11 (some .int) 46 [(8, .int (nI (k))), (7, .int (nI (Bool.toNat (lgDb x k)))), (6, .int (nI (Bool.toNat (lgPb x k)))), (0, .ref (o)), (1, .int (nI (n))), (2, .int (nI (sh))), (3, .int (nI (m))), (4, .long (x))] [] h 0 0 (fun r h' => h' = h ∧ r = some (.int (-5))) := by
    intro c
    induction c with
    | zero =>
      intro k hk
      refine mm_iload dX12_ligature_46 0 rfl ?_
      refine mm_iload_n dX12_ligature_48 rfl 6 rfl ?_
      refine mn_icmp_ge (tgt := 126) dX12_ligature_49 (by decide) (by omega) (by omega) (fun c49 => ?_) (fun c49 => ?_)
      · have e : k = m := by omega
        rw [e]
        exact j126
      · omega
    | succ c ih =>
      intro k hk
      have p1 : lgPb x (k + 1) = (lgPb x k && decide ((-40) ≤ ptc x k ∧ ptc x k ≤ nI 40)) := rfl
      have p2 : lgDb x (k + 1) = (lgDb x k && (decide (k = 0) || decide (ptc x k ≠ ptc x (k - 1)))) := rfl
      have j84 : mm_V (zz_K l D aa b0) 3 yX12_ligature cX12_ligature 11 (some .int) 84 [(8, .int (nI (k))), (7, .int (nI (Bool.toNat (lgDb x k)))), (6, .int (nI (Bool.toNat (lgPb x (k + 1))))), (0, .ref (o)), (1, .int (nI (n))), (2, .int (nI (sh))), (3, .int (nI (m))), (4, .long (x))] [] h 0 0 (fun r h' => h' = h ∧ r = some (.int (-5))) := by
        refine mm_iload dX12_ligature_84 1 rfl ?_
        refine mn_ifB_eq (tgt := 117) dX12_ligature_86 (by decide) (fun c86 => ?_) (fun c86 => ?_)
        · refine mm_iconst (v := nI 0) dX12_ligature_117 (by decide) ?_
          refine mn_top (u := .int (nI (Bool.toNat (lgDb x (k + 1))))) (congrArg Value.int (by rw [p2, c86]; rfl)) ?_
          refine mm_istore (L' := [(7, .int (nI (Bool.toNat (lgDb x (k + 1))))), (8, .int (nI (k))), (6, .int (nI (Bool.toNat (lgPb x (k + 1))))), (0, .ref (o)), (1, .int (nI (n))), (2, .int (nI (sh))), (3, .int (nI (m))), (4, .long (x))]) dX12_ligature_118 (by decide) rfl ?_
          refine mn_iinc (m := 1) (L' := [(8, .int (nI (k + 1))), (7, .int (nI (Bool.toNat (lgDb x (k + 1))))), (6, .int (nI (Bool.toNat (lgPb x (k + 1))))), (0, .ref (o)), (1, .int (nI (n))), (2, .int (nI (sh))), (3, .int (nI (m))), (4, .long (x))]) dX12_ligature_120 (by decide) 1 rfl (by decide) rfl ?_
          refine mm_goto (tgt := 46) dX12_ligature_123 (by decide) ?_
          refine mn_sub [0, 1, 2, 3, 4, 5, 6, 7] rfl ?_
          exact ih (k + 1) (by omega)
        · refine mm_iload dX12_ligature_89 0 rfl ?_
          refine mn_if_eq (tgt := 113) dX12_ligature_91 (by decide) (by omega) (fun c91 => ?_) (fun c91 => ?_)
          · refine mm_iconst (v := nI 1) dX12_ligature_113 (by decide) ?_
            refine mm_goto (tgt := 118) dX12_ligature_114 (by decide) ?_
            refine mn_top (u := .int (nI (Bool.toNat (lgDb x (k + 1))))) (congrArg Value.int (by rw [p2, c86, decide_eq_true (show k = 0 from c91)]; rfl)) ?_
            refine mm_istore (L' := [(7, .int (nI (Bool.toNat (lgDb x (k + 1))))), (8, .int (nI (k))), (6, .int (nI (Bool.toNat (lgPb x (k + 1))))), (0, .ref (o)), (1, .int (nI (n))), (2, .int (nI (sh))), (3, .int (nI (m))), (4, .long (x))]) dX12_ligature_118 (by decide) rfl ?_
            refine mn_iinc (m := 1) (L' := [(8, .int (nI (k + 1))), (7, .int (nI (Bool.toNat (lgDb x (k + 1))))), (6, .int (nI (Bool.toNat (lgPb x (k + 1))))), (0, .ref (o)), (1, .int (nI (n))), (2, .int (nI (sh))), (3, .int (nI (m))), (4, .long (x))]) dX12_ligature_120 (by decide) 1 rfl (by decide) rfl ?_
            refine mm_goto (tgt := 46) dX12_ligature_123 (by decide) ?_
            refine mn_sub [0, 1, 2, 3, 4, 5, 6, 7] rfl ?_
            exact ih (k + 1) (by omega)
          · refine mm_lload dX12_ligature_94 7 rfl ?_
            refine mm_iload dX12_ligature_96 0 rfl ?_
            refine rm_callSr (As := [.long (x), .int (nI (k))]) (rest := []) (d2 := 0) dX12_ligature_98 zc_pitchIn rfl rfl (Nat.le_of_ble_eq_true rfl) (Nat.le_of_ble_eq_true rfl) (by decide) (tl_pitchIn (x := x) (k := k) (by omega)) ?_
            refine mm_lload dX12_ligature_101 7 rfl ?_
            refine mm_iload dX12_ligature_103 0 rfl ?_
            refine mm_iconst (v := nI 1) dX12_ligature_105 (by decide) ?_
            refine mn_isub dX12_ligature_106 (by omega) ?_
            refine rm_callSr (As := [.long (x), .int (nI ((k) - (1)))]) (rest := [.int (ptc x (k))]) (d2 := 0) dX12_ligature_107 zc_pitchIn rfl rfl (Nat.le_of_ble_eq_true rfl) (Nat.le_of_ble_eq_true rfl) (by decide) (tl_pitchIn (x := x) (k := (k) - (1)) (by omega)) ?_
            refine mm_icmp_eq (tgt := 117) dX12_ligature_110 (by decide) (fun c110 => ?_) (fun c110 => ?_)
            · refine mm_iconst (v := nI 0) dX12_ligature_117 (by decide) ?_
              refine mn_top (u := .int (nI (Bool.toNat (lgDb x (k + 1))))) (congrArg Value.int (by rw [p2, c86, decide_eq_false (show ¬ k = 0 from c91), decide_eq_false (fun q => q c110)]; rfl)) ?_
              refine mm_istore (L' := [(7, .int (nI (Bool.toNat (lgDb x (k + 1))))), (8, .int (nI (k))), (6, .int (nI (Bool.toNat (lgPb x (k + 1))))), (0, .ref (o)), (1, .int (nI (n))), (2, .int (nI (sh))), (3, .int (nI (m))), (4, .long (x))]) dX12_ligature_118 (by decide) rfl ?_
              refine mn_iinc (m := 1) (L' := [(8, .int (nI (k + 1))), (7, .int (nI (Bool.toNat (lgDb x (k + 1))))), (6, .int (nI (Bool.toNat (lgPb x (k + 1))))), (0, .ref (o)), (1, .int (nI (n))), (2, .int (nI (sh))), (3, .int (nI (m))), (4, .long (x))]) dX12_ligature_120 (by decide) 1 rfl (by decide) rfl ?_
              refine mm_goto (tgt := 46) dX12_ligature_123 (by decide) ?_
              refine mn_sub [0, 1, 2, 3, 4, 5, 6, 7] rfl ?_
              exact ih (k + 1) (by omega)
            · refine mm_iconst (v := nI 1) dX12_ligature_113 (by decide) ?_
              refine mm_goto (tgt := 118) dX12_ligature_114 (by decide) ?_
              refine mn_top (u := .int (nI (Bool.toNat (lgDb x (k + 1))))) (congrArg Value.int (by rw [p2, c86, decide_eq_false (show ¬ k = 0 from c91), decide_eq_true c110]; rfl)) ?_
              refine mm_istore (L' := [(7, .int (nI (Bool.toNat (lgDb x (k + 1))))), (8, .int (nI (k))), (6, .int (nI (Bool.toNat (lgPb x (k + 1))))), (0, .ref (o)), (1, .int (nI (n))), (2, .int (nI (sh))), (3, .int (nI (m))), (4, .long (x))]) dX12_ligature_118 (by decide) rfl ?_
              refine mn_iinc (m := 1) (L' := [(8, .int (nI (k + 1))), (7, .int (nI (Bool.toNat (lgDb x (k + 1))))), (6, .int (nI (Bool.toNat (lgPb x (k + 1))))), (0, .ref (o)), (1, .int (nI (n))), (2, .int (nI (sh))), (3, .int (nI (m))), (4, .long (x))]) dX12_ligature_120 (by decide) 1 rfl (by decide) rfl ?_
              refine mm_goto (tgt := 46) dX12_ligature_123 (by decide) ?_
              refine mn_sub [0, 1, 2, 3, 4, 5, 6, 7] rfl ?_
              exact ih (k + 1) (by omega)
      refine mm_iload dX12_ligature_46 0 rfl ?_
      refine mm_iload_n dX12_ligature_48 rfl 6 rfl ?_
      refine mn_icmp_ge (tgt := 126) dX12_ligature_49 (by decide) (by omega) (by omega) (fun c49 => ?_) (fun c49 => ?_)
      · omega
      · refine mm_iload dX12_ligature_52 2 rfl ?_
        refine mn_ifB_eq (tgt := 81) dX12_ligature_54 (by decide) (fun c54 => ?_) (fun c54 => ?_)
        · refine mm_iconst (v := nI 0) dX12_ligature_81 (by decide) ?_
          refine mn_top (u := .int (nI (Bool.toNat (lgPb x (k + 1))))) (congrArg Value.int (by rw [p1, c54]; rfl)) ?_
          refine mm_istore (L' := [(6, .int (nI (Bool.toNat (lgPb x (k + 1))))), (8, .int (nI (k))), (7, .int (nI (Bool.toNat (lgDb x k)))), (0, .ref (o)), (1, .int (nI (n))), (2, .int (nI (sh))), (3, .int (nI (m))), (4, .long (x))]) dX12_ligature_82 (by decide) rfl ?_
          refine mn_sub [1, 2, 0, 3, 4, 5, 6, 7] rfl ?_
          exact j84
        · refine mm_lload dX12_ligature_57 7 rfl ?_
          refine mm_iload dX12_ligature_59 0 rfl ?_
          refine rm_callSr (As := [.long (x), .int (nI (k))]) (rest := []) (d2 := 0) dX12_ligature_61 zc_pitchIn rfl rfl (Nat.le_of_ble_eq_true rfl) (Nat.le_of_ble_eq_true rfl) (by decide) (tl_pitchIn (x := x) (k := k) (by omega)) ?_
          refine mm_i2l dX12_ligature_64 ?_
          refine mm_ldc2 (v := (-40)) dX12_ligature_65 zk_135 ?_
          refine mm_ldc2 (v := (40)) dX12_ligature_68 zk_137 ?_
          refine mn_top (u := .long (lN (40))) (congrArg Value.long (by decide)) ?_
          by_cases hp : (-40) ≤ ptc x k ∧ ptc x k ≤ nI 40
          · refine rm_callSr (As := [.long ((ptc x (k)).toInt64), .long ((-40)), .long (lN (40))]) (rest := []) (d2 := 0) dX12_ligature_71 zc_isIn rfl rfl (Nat.le_of_ble_eq_true rfl) (Nat.le_of_ble_eq_true rfl) (by decide) (tm_isIn _ _ _) ?_
            refine mn_top (u := .int (nI (Bool.toNat (true)))) (congrArg Value.int (in_t (a := -40) (b := 40) (by decide) (by decide) (by omega) (by omega) ((i32_pi hp).2))) ?_
            refine mn_ifB_eq (tgt := 81) dX12_ligature_74 (by decide) (fun c74 => ?_) (fun c74 => ?_)
            · cases c74
            · refine mm_iconst (v := nI 1) dX12_ligature_77 (by decide) ?_
              refine mm_goto (tgt := 82) dX12_ligature_78 (by decide) ?_
              refine mn_top (u := .int (nI (Bool.toNat (lgPb x (k + 1))))) (congrArg Value.int (by rw [p1, c54, decide_eq_true hp]; rfl)) ?_
              refine mm_istore (L' := [(6, .int (nI (Bool.toNat (lgPb x (k + 1))))), (8, .int (nI (k))), (7, .int (nI (Bool.toNat (lgDb x k)))), (0, .ref (o)), (1, .int (nI (n))), (2, .int (nI (sh))), (3, .int (nI (m))), (4, .long (x))]) dX12_ligature_82 (by decide) rfl ?_
              refine mn_sub [1, 2, 0, 3, 4, 5, 6, 7] rfl ?_
              exact j84
          · refine rm_callSr (As := [.long ((ptc x (k)).toInt64), .long ((-40)), .long (lN (40))]) (rest := []) (d2 := 0) dX12_ligature_71 zc_isIn rfl rfl (Nat.le_of_ble_eq_true rfl) (Nat.le_of_ble_eq_true rfl) (by decide) (tm_isIn _ _ _) ?_
            refine mn_top (u := .int (nI (Bool.toNat (false)))) (congrArg Value.int (in_f (a := -40) (b := 40) (by decide) (by decide) (by omega) (by omega) (pi_to hp))) ?_
            refine mn_ifB_eq (tgt := 81) dX12_ligature_74 (by decide) (fun c74 => ?_) (fun c74 => ?_)
            · refine mm_iconst (v := nI 0) dX12_ligature_81 (by decide) ?_
              refine mn_top (u := .int (nI (Bool.toNat (lgPb x (k + 1))))) (congrArg Value.int (by rw [p1, c54, decide_eq_false hp]; rfl)) ?_
              refine mm_istore (L' := [(6, .int (nI (Bool.toNat (lgPb x (k + 1))))), (8, .int (nI (k))), (7, .int (nI (Bool.toNat (lgDb x k)))), (0, .ref (o)), (1, .int (nI (n))), (2, .int (nI (sh))), (3, .int (nI (m))), (4, .long (x))]) dX12_ligature_82 (by decide) rfl ?_
              refine mn_sub [1, 2, 0, 3, 4, 5, 6, 7] rfl ?_
              exact j84
            · cases c74
  refine mm_aload_n dX12_ligature_0 rfl 0 rfl ?_
  refine mm_iload_n dX12_ligature_1 rfl 1 rfl ?_
  refine rm_callVr (As := [.int (nI (n))]) (rest := []) (d2 := 1) dX12_ligature_2 ha zc_isVoice zc_isVoice_s rfl rfl rfl (Nat.le_of_ble_eq_true rfl) (Nat.le_of_ble_eq_true rfl) (by decide) (tM_isVoice ha hW hI (nI_inb hn (by have := hW.1.1; omega))) ?_
  refine mn_ifB_eq (tgt := 34) dX12_ligature_5 (by decide) (fun c5 => ?_) (fun c5 => ?_)
  · cases c5
  · refine mm_iload_n dX12_ligature_8 rfl 2 rfl ?_
    refine mm_i2l dX12_ligature_9 ?_
    refine mm_lconst (v := lN 0) dX12_ligature_10 (by decide) ?_
    refine mm_ldc2 (v := (15)) dX12_ligature_11 zk_123 ?_
    refine mn_top (u := .long (lN (15))) (congrArg Value.long (by decide)) ?_
    refine rm_callSr (As := [.long ((nI (sh)).toInt64), .long (lN (0)), .long (lN (15))]) (rest := []) (d2 := 0) dX12_ligature_14 zc_isIn rfl rfl (Nat.le_of_ble_eq_true rfl) (Nat.le_of_ble_eq_true rfl) (by decide) (tm_isIn _ _ _) ?_
    refine mn_top (u := .int (nI (Bool.toNat (true)))) (congrArg Value.int (in_t (a := 0) (b := 15) (by decide) (by decide) (by omega) (by omega) ((nI_inb hsh (by decide)).imp id (fun z => by omega)))) ?_
    refine mn_ifB_eq (tgt := 34) dX12_ligature_17 (by decide) (fun c17 => ?_) (fun c17 => ?_)
    · cases c17
    · refine mm_iload_n dX12_ligature_20 rfl 3 rfl ?_
      refine mm_i2l dX12_ligature_21 ?_
      refine mm_ldc2 (v := (2)) dX12_ligature_22 zk_143 ?_
      refine mn_top (u := .long (lN (2))) (congrArg Value.long (by decide)) ?_
      refine mm_ldc2 (v := (8)) dX12_ligature_25 zk_145 ?_
      refine mn_top (u := .long (lN (8))) (congrArg Value.long (by decide)) ?_
      refine rm_callSr (As := [.long ((nI (m)).toInt64), .long (lN (2)), .long (lN (8))]) (rest := []) (d2 := 0) dX12_ligature_28 zc_isIn rfl rfl (Nat.le_of_ble_eq_true rfl) (Nat.le_of_ble_eq_true rfl) (by decide) (tm_isIn _ _ _) ?_
      refine mn_top (u := .int (nI (Bool.toNat (true)))) (congrArg Value.int (in_t (a := 2) (b := 8) (by decide) (by decide) (by omega) (by omega) (by rw [nI_toInt (by omega)]; omega))) ?_
      refine mn_ifB_ne (tgt := 37) dX12_ligature_31 (by decide) (fun c31 => ?_) (fun c31 => ?_)
      · refine mm_iconst (v := nI 1) dX12_ligature_37 (by decide) ?_
        refine mm_istore (L' := [(6, .int (nI (1))), (0, .ref (o)), (1, .int (nI (n))), (2, .int (nI (sh))), (3, .int (nI (m))), (4, .long (x))]) dX12_ligature_38 (by decide) rfl ?_
        refine mm_iconst (v := nI 1) dX12_ligature_40 (by decide) ?_
        refine mm_istore (L' := [(7, .int (nI (1))), (6, .int (nI (1))), (0, .ref (o)), (1, .int (nI (n))), (2, .int (nI (sh))), (3, .int (nI (m))), (4, .long (x))]) dX12_ligature_41 (by decide) rfl ?_
        refine mm_iconst (v := nI 0) dX12_ligature_43 (by decide) ?_
        refine mm_istore (L' := [(8, .int (nI (0))), (7, .int (nI (1))), (6, .int (nI (1))), (0, .ref (o)), (1, .int (nI (n))), (2, .int (nI (sh))), (3, .int (nI (m))), (4, .long (x))]) dX12_ligature_44 (by decide) rfl ?_
        refine mn_sub [0, 1, 2, 3, 4, 5, 6, 7] rfl ?_
        exact lp0 m 0 (by omega)
      · cases c31
set_option maxRecDepth 100000 in
set_option maxHeartbeats 4000000 in
theorem tM_ligF {l : Launch} {D : va_G} {aa : Nat → ClassId} {b0 : Nat} {h : mm_H} {o : Nat} {F : Nat → Int32} {G : Nat → Int64} {A : Nat → Nat → Int32} {B : Nat → Nat → Int64} {s : aS} {n : Nat} {x : Int64} {sh m : Nat} (ha : rm_at o F G A B h) (hW : WF s) (hI : RI s F A B) (hn : n < aNv s) (hsh : sh < 16) (hm : 2 ≤ m ∧ m ≤ 8) (hP : lgP x m) (hS : lgS sh m x) (hfull : 24 < aSz s n + m) : mm_V (zz_K l D aa b0) 3 yX12_ligature cX12_ligature 11 (some .int) 0 [(0, .ref (o)), (1, .int (nI (n))), (2, .int (nI (sh))), (3, .int (nI (m))), (4, .long (x))] [] h 0 0 (fun r h' => h' = h ∧ r = some (.int (-3))) := by
  have hf : rm_fr o h h := rm_fr.rf
  have hn6 : n < 6 := by have := hW.1.1; omega
  have hvok := hW.2.1 n hn6
  have hsz24 : aSz s n ≤ 24 := hvok.1.2
  obtain ⟨⟨v1, w1⟩, ⟨v2, w2⟩, ⟨v3, w3⟩, ⟨v4, w4⟩, v5, w5⟩ := hI.1.2 n hn6
  have j126 : mm_V (zz_K l D aa b0) 3 yX12_ligature cX12_ligature 11 (some .int) 126 [(8, .int (nI (m))), (7, .int (nI (Bool.toNat (lgDb x m)))), (6, .int (nI (Bool.toNat (lgPb x m)))), (0, .ref (o)), (1, .int (nI (n))), (2, .int (nI (sh))), (3, .int (nI (m))), (4, .long (x))] [] h 0 0 (fun r h' => h' = h ∧ r = some (.int (-3))) := by
    refine mm_iload dX12_ligature_126 2 rfl ?_
    refine mn_ifB_ne (tgt := 134) dX12_ligature_128 (by decide) (fun c128 => ?_) (fun c128 => ?_)
    · refine mm_lload dX12_ligature_134 7 rfl ?_
      refine mm_iload_n dX12_ligature_136 rfl 6 rfl ?_
      refine mm_iconst (v := nI 1) dX12_ligature_137 (by decide) ?_
      refine mn_isub dX12_ligature_138 (by omega) ?_
      refine rm_callSr (As := [.long (x), .int (nI ((m) - (1)))]) (rest := []) (d2 := 0) dX12_ligature_139 zc_pitchIn rfl rfl (Nat.le_of_ble_eq_true rfl) (Nat.le_of_ble_eq_true rfl) (by decide) (tl_pitchIn (x := x) (k := (m) - (1)) (by omega)) ?_
      refine mm_lload dX12_ligature_142 7 rfl ?_
      refine mm_iload_n dX12_ligature_144 rfl 6 rfl ?_
      refine mm_iconst (v := nI 2) dX12_ligature_145 (by decide) ?_
      refine mn_isub dX12_ligature_146 (by omega) ?_
      refine rm_callSr (As := [.long (x), .int (nI ((m) - (2)))]) (rest := [.int (ptc x ((m) - (1)))]) (d2 := 0) dX12_ligature_147 zc_pitchIn rfl rfl (Nat.le_of_ble_eq_true rfl) (Nat.le_of_ble_eq_true rfl) (by decide) (tl_pitchIn (x := x) (k := (m) - (2)) (by omega)) ?_
      refine mn_top (u := .int (ptc x (m - 1 - 1))) (congrArg Value.int (by rw [show m - 2 = m - 1 - 1 from by omega])) ?_
      refine mm_icmp_ge (tgt := 157) dX12_ligature_150 (by decide) (fun c150 => ?_) (fun c150 => ?_)
      · refine mm_iconst (v := nI 0) dX12_ligature_157 (by decide) ?_
        refine mn_top (u := .int (nI (Bool.toNat (lgF x (m - 1))))) (congrArg Value.int (by rw [show lgF x (m - 1) = false from decide_eq_false (fun q => i32_nle q c150)]; rfl)) ?_
        refine mm_istore (L' := [(8, .int (nI (Bool.toNat (lgF x (m - 1))))), (7, .int (nI (Bool.toNat (lgDb x m)))), (6, .int (nI (Bool.toNat (lgPb x m)))), (0, .ref (o)), (1, .int (nI (n))), (2, .int (nI (sh))), (3, .int (nI (m))), (4, .long (x))]) dX12_ligature_158 (by decide) rfl ?_
        refine mm_iload dX12_ligature_160 1 rfl ?_
        refine mn_ifB_eq (tgt := 183) dX12_ligature_162 (by decide) (fun c162 => ?_) (fun c162 => ?_)
        · rw [(lgDb_t m).mpr hS.1] at c162; cases c162
        · refine mm_iload_n dX12_ligature_165 rfl 5 rfl ?_
          refine mm_iconst (v := nI 3) dX12_ligature_166 (by decide) ?_
          refine mm_iand dX12_ligature_167 ?_
          refine mn_top (u := .int (nI (sh % 4))) (congrArg Value.int (by rw [bI_and, and_3])) ?_
          refine mm_iconst (v := nI 3) dX12_ligature_168 (by decide) ?_
          refine mn_icmp_eq (tgt := 183) dX12_ligature_169 (by decide) (by omega) (by omega) (fun c169 => ?_) (fun c169 => ?_)
          · exact absurd c169 hS.2.1
          · refine mm_iload_n dX12_ligature_172 rfl 5 rfl ?_
            refine mm_iconst (v := nI 4) dX12_ligature_173 (by decide) ?_
            refine mm_iand dX12_ligature_174 ?_
            refine mn_top (u := .int (nI (4 * (sh / 4 % 2)))) (congrArg Value.int (by rw [bI_and, and_4])) ?_
            refine mn_if_eq (tgt := 186) dX12_ligature_175 (by decide) (by omega) (fun c175 => ?_) (fun c175 => ?_)
            · refine mm_aload_n dX12_ligature_186 rfl 3 rfl ?_
              refine rm_getA 2 dX12_ligature_187 ha zf_sizeOf (by decide) rfl ?_
              refine mm_iload_n dX12_ligature_190 rfl 4 rfl ?_
              refine rm_iald (k := 2) dX12_ligature_191 ha rfl rfl rfl (show n < 6 from (by omega)) ?_
              refine mn_top (u := .int (nI (aSz s n))) (congrArg Value.int (v2)) ?_
              refine mm_iload_n dX12_ligature_192 rfl 6 rfl ?_
              refine mn_iadd dX12_ligature_193 ?_
              refine mm_bipush (v := nI 24) dX12_ligature_194 (by decide) ?_
              refine mn_icmp_le (tgt := 202) dX12_ligature_196 (by decide) (by omega) (by omega) (fun c196 => ?_) (fun c196 => ?_)
              · omega
              · refine mm_bipush (v := (-3)) dX12_ligature_199 (by decide) ?_
                exact mm_iret dX12_ligature_201 rfl (⟨rfl, rfl⟩)
            · refine mm_iload dX12_ligature_178 0 rfl ?_
              refine mn_ifB_ne (tgt := 186) dX12_ligature_180 (by decide) (fun c180 => ?_) (fun c180 => ?_)
              · refine mm_aload_n dX12_ligature_186 rfl 3 rfl ?_
                refine rm_getA 2 dX12_ligature_187 ha zf_sizeOf (by decide) rfl ?_
                refine mm_iload_n dX12_ligature_190 rfl 4 rfl ?_
                refine rm_iald (k := 2) dX12_ligature_191 ha rfl rfl rfl (show n < 6 from (by omega)) ?_
                refine mn_top (u := .int (nI (aSz s n))) (congrArg Value.int (v2)) ?_
                refine mm_iload_n dX12_ligature_192 rfl 6 rfl ?_
                refine mn_iadd dX12_ligature_193 ?_
                refine mm_bipush (v := nI 24) dX12_ligature_194 (by decide) ?_
                refine mn_icmp_le (tgt := 202) dX12_ligature_196 (by decide) (by omega) (by omega) (fun c196 => ?_) (fun c196 => ?_)
                · omega
                · refine mm_bipush (v := (-3)) dX12_ligature_199 (by decide) ?_
                  exact mm_iret dX12_ligature_201 rfl (⟨rfl, rfl⟩)
              · exact absurd ⟨by omega, c180⟩ hS.2.2
      · refine mm_iconst (v := nI 1) dX12_ligature_153 (by decide) ?_
        refine mm_goto (tgt := 158) dX12_ligature_154 (by decide) ?_
        refine mn_top (u := .int (nI (Bool.toNat (lgF x (m - 1))))) (congrArg Value.int (by rw [show lgF x (m - 1) = true from decide_eq_true (Int32.not_le.mp c150)]; rfl)) ?_
        refine mm_istore (L' := [(8, .int (nI (Bool.toNat (lgF x (m - 1))))), (7, .int (nI (Bool.toNat (lgDb x m)))), (6, .int (nI (Bool.toNat (lgPb x m)))), (0, .ref (o)), (1, .int (nI (n))), (2, .int (nI (sh))), (3, .int (nI (m))), (4, .long (x))]) dX12_ligature_158 (by decide) rfl ?_
        refine mm_iload dX12_ligature_160 1 rfl ?_
        refine mn_ifB_eq (tgt := 183) dX12_ligature_162 (by decide) (fun c162 => ?_) (fun c162 => ?_)
        · rw [(lgDb_t m).mpr hS.1] at c162; cases c162
        · refine mm_iload_n dX12_ligature_165 rfl 5 rfl ?_
          refine mm_iconst (v := nI 3) dX12_ligature_166 (by decide) ?_
          refine mm_iand dX12_ligature_167 ?_
          refine mn_top (u := .int (nI (sh % 4))) (congrArg Value.int (by rw [bI_and, and_3])) ?_
          refine mm_iconst (v := nI 3) dX12_ligature_168 (by decide) ?_
          refine mn_icmp_eq (tgt := 183) dX12_ligature_169 (by decide) (by omega) (by omega) (fun c169 => ?_) (fun c169 => ?_)
          · exact absurd c169 hS.2.1
          · refine mm_iload_n dX12_ligature_172 rfl 5 rfl ?_
            refine mm_iconst (v := nI 4) dX12_ligature_173 (by decide) ?_
            refine mm_iand dX12_ligature_174 ?_
            refine mn_top (u := .int (nI (4 * (sh / 4 % 2)))) (congrArg Value.int (by rw [bI_and, and_4])) ?_
            refine mn_if_eq (tgt := 186) dX12_ligature_175 (by decide) (by omega) (fun c175 => ?_) (fun c175 => ?_)
            · refine mm_aload_n dX12_ligature_186 rfl 3 rfl ?_
              refine rm_getA 2 dX12_ligature_187 ha zf_sizeOf (by decide) rfl ?_
              refine mm_iload_n dX12_ligature_190 rfl 4 rfl ?_
              refine rm_iald (k := 2) dX12_ligature_191 ha rfl rfl rfl (show n < 6 from (by omega)) ?_
              refine mn_top (u := .int (nI (aSz s n))) (congrArg Value.int (v2)) ?_
              refine mm_iload_n dX12_ligature_192 rfl 6 rfl ?_
              refine mn_iadd dX12_ligature_193 ?_
              refine mm_bipush (v := nI 24) dX12_ligature_194 (by decide) ?_
              refine mn_icmp_le (tgt := 202) dX12_ligature_196 (by decide) (by omega) (by omega) (fun c196 => ?_) (fun c196 => ?_)
              · omega
              · refine mm_bipush (v := (-3)) dX12_ligature_199 (by decide) ?_
                exact mm_iret dX12_ligature_201 rfl (⟨rfl, rfl⟩)
            · refine mm_iload dX12_ligature_178 0 rfl ?_
              refine mn_ifB_ne (tgt := 186) dX12_ligature_180 (by decide) (fun c180 => ?_) (fun c180 => ?_)
              · refine mm_aload_n dX12_ligature_186 rfl 3 rfl ?_
                refine rm_getA 2 dX12_ligature_187 ha zf_sizeOf (by decide) rfl ?_
                refine mm_iload_n dX12_ligature_190 rfl 4 rfl ?_
                refine rm_iald (k := 2) dX12_ligature_191 ha rfl rfl rfl (show n < 6 from (by omega)) ?_
                refine mn_top (u := .int (nI (aSz s n))) (congrArg Value.int (v2)) ?_
                refine mm_iload_n dX12_ligature_192 rfl 6 rfl ?_
                refine mn_iadd dX12_ligature_193 ?_
                refine mm_bipush (v := nI 24) dX12_ligature_194 (by decide) ?_
                refine mn_icmp_le (tgt := 202) dX12_ligature_196 (by decide) (by omega) (by omega) (fun c196 => ?_) (fun c196 => ?_)
                · omega
                · refine mm_bipush (v := (-3)) dX12_ligature_199 (by decide) ?_
                  exact mm_iret dX12_ligature_201 rfl (⟨rfl, rfl⟩)
              · exact absurd ⟨by omega, c180⟩ hS.2.2
    · rw [(lgPb_t m).mpr hP] at c128; cases c128
  have lp0 : ∀ (c k : Nat), k + c = m → mm_V (zz_K l D aa b0) 3 yX12_ligature cX12_ligature 11 (some .int) 46 [(8, .int (nI (k))), (7, .int (nI (Bool.toNat (lgDb x k)))), (6, .int (nI (Bool.toNat (lgPb x k)))), (0, .ref (o)), (1, .int (nI (n))), (2, .int (nI (sh))), (3, .int (nI (m))), (4, .long (x))] [] h 0 0 (fun r h' => h' = h ∧ r = some (.int (-3))) := by
    intro c
    induction c with
    | zero =>
      intro k hk
      refine mm_iload dX12_ligature_46 0 rfl ?_
      refine mm_iload_n dX12_ligature_48 rfl 6 rfl ?_
      refine mn_icmp_ge (tgt := 126) dX12_ligature_49 (by decide) (by omega) (by omega) (fun c49 => ?_) (fun c49 => ?_)
      · have e : k = m := by omega
        rw [e]
        exact j126
      · omega
    | succ c ih =>
      intro k hk
      have p1 : lgPb x (k + 1) = (lgPb x k && decide ((-40) ≤ ptc x k ∧ ptc x k ≤ nI 40)) := rfl
      have p2 : lgDb x (k + 1) = (lgDb x k && (decide (k = 0) || decide (ptc x k ≠ ptc x (k - 1)))) := rfl
      have j84 : mm_V (zz_K l D aa b0) 3 yX12_ligature cX12_ligature 11 (some .int) 84 [(8, .int (nI (k))), (7, .int (nI (Bool.toNat (lgDb x k)))), (6, .int (nI (Bool.toNat (lgPb x (k + 1))))), (0, .ref (o)), (1, .int (nI (n))), (2, .int (nI (sh))), (3, .int (nI (m))), (4, .long (x))] [] h 0 0 (fun r h' => h' = h ∧ r = some (.int (-3))) := by
        refine mm_iload dX12_ligature_84 1 rfl ?_
        refine mn_ifB_eq (tgt := 117) dX12_ligature_86 (by decide) (fun c86 => ?_) (fun c86 => ?_)
        · refine mm_iconst (v := nI 0) dX12_ligature_117 (by decide) ?_
          refine mn_top (u := .int (nI (Bool.toNat (lgDb x (k + 1))))) (congrArg Value.int (by rw [p2, c86]; rfl)) ?_
          refine mm_istore (L' := [(7, .int (nI (Bool.toNat (lgDb x (k + 1))))), (8, .int (nI (k))), (6, .int (nI (Bool.toNat (lgPb x (k + 1))))), (0, .ref (o)), (1, .int (nI (n))), (2, .int (nI (sh))), (3, .int (nI (m))), (4, .long (x))]) dX12_ligature_118 (by decide) rfl ?_
          refine mn_iinc (m := 1) (L' := [(8, .int (nI (k + 1))), (7, .int (nI (Bool.toNat (lgDb x (k + 1))))), (6, .int (nI (Bool.toNat (lgPb x (k + 1))))), (0, .ref (o)), (1, .int (nI (n))), (2, .int (nI (sh))), (3, .int (nI (m))), (4, .long (x))]) dX12_ligature_120 (by decide) 1 rfl (by decide) rfl ?_
          refine mm_goto (tgt := 46) dX12_ligature_123 (by decide) ?_
          refine mn_sub [0, 1, 2, 3, 4, 5, 6, 7] rfl ?_
          exact ih (k + 1) (by omega)
        · refine mm_iload dX12_ligature_89 0 rfl ?_
          refine mn_if_eq (tgt := 113) dX12_ligature_91 (by decide) (by omega) (fun c91 => ?_) (fun c91 => ?_)
          · refine mm_iconst (v := nI 1) dX12_ligature_113 (by decide) ?_
            refine mm_goto (tgt := 118) dX12_ligature_114 (by decide) ?_
            refine mn_top (u := .int (nI (Bool.toNat (lgDb x (k + 1))))) (congrArg Value.int (by rw [p2, c86, decide_eq_true (show k = 0 from c91)]; rfl)) ?_
            refine mm_istore (L' := [(7, .int (nI (Bool.toNat (lgDb x (k + 1))))), (8, .int (nI (k))), (6, .int (nI (Bool.toNat (lgPb x (k + 1))))), (0, .ref (o)), (1, .int (nI (n))), (2, .int (nI (sh))), (3, .int (nI (m))), (4, .long (x))]) dX12_ligature_118 (by decide) rfl ?_
            refine mn_iinc (m := 1) (L' := [(8, .int (nI (k + 1))), (7, .int (nI (Bool.toNat (lgDb x (k + 1))))), (6, .int (nI (Bool.toNat (lgPb x (k + 1))))), (0, .ref (o)), (1, .int (nI (n))), (2, .int (nI (sh))), (3, .int (nI (m))), (4, .long (x))]) dX12_ligature_120 (by decide) 1 rfl (by decide) rfl ?_
            refine mm_goto (tgt := 46) dX12_ligature_123 (by decide) ?_
            refine mn_sub [0, 1, 2, 3, 4, 5, 6, 7] rfl ?_
            exact ih (k + 1) (by omega)
          · refine mm_lload dX12_ligature_94 7 rfl ?_
            refine mm_iload dX12_ligature_96 0 rfl ?_
            refine rm_callSr (As := [.long (x), .int (nI (k))]) (rest := []) (d2 := 0) dX12_ligature_98 zc_pitchIn rfl rfl (Nat.le_of_ble_eq_true rfl) (Nat.le_of_ble_eq_true rfl) (by decide) (tl_pitchIn (x := x) (k := k) (by omega)) ?_
            refine mm_lload dX12_ligature_101 7 rfl ?_
            refine mm_iload dX12_ligature_103 0 rfl ?_
            refine mm_iconst (v := nI 1) dX12_ligature_105 (by decide) ?_
            refine mn_isub dX12_ligature_106 (by omega) ?_
            refine rm_callSr (As := [.long (x), .int (nI ((k) - (1)))]) (rest := [.int (ptc x (k))]) (d2 := 0) dX12_ligature_107 zc_pitchIn rfl rfl (Nat.le_of_ble_eq_true rfl) (Nat.le_of_ble_eq_true rfl) (by decide) (tl_pitchIn (x := x) (k := (k) - (1)) (by omega)) ?_
            refine mm_icmp_eq (tgt := 117) dX12_ligature_110 (by decide) (fun c110 => ?_) (fun c110 => ?_)
            · refine mm_iconst (v := nI 0) dX12_ligature_117 (by decide) ?_
              refine mn_top (u := .int (nI (Bool.toNat (lgDb x (k + 1))))) (congrArg Value.int (by rw [p2, c86, decide_eq_false (show ¬ k = 0 from c91), decide_eq_false (fun q => q c110)]; rfl)) ?_
              refine mm_istore (L' := [(7, .int (nI (Bool.toNat (lgDb x (k + 1))))), (8, .int (nI (k))), (6, .int (nI (Bool.toNat (lgPb x (k + 1))))), (0, .ref (o)), (1, .int (nI (n))), (2, .int (nI (sh))), (3, .int (nI (m))), (4, .long (x))]) dX12_ligature_118 (by decide) rfl ?_
              refine mn_iinc (m := 1) (L' := [(8, .int (nI (k + 1))), (7, .int (nI (Bool.toNat (lgDb x (k + 1))))), (6, .int (nI (Bool.toNat (lgPb x (k + 1))))), (0, .ref (o)), (1, .int (nI (n))), (2, .int (nI (sh))), (3, .int (nI (m))), (4, .long (x))]) dX12_ligature_120 (by decide) 1 rfl (by decide) rfl ?_
              refine mm_goto (tgt := 46) dX12_ligature_123 (by decide) ?_
              refine mn_sub [0, 1, 2, 3, 4, 5, 6, 7] rfl ?_
              exact ih (k + 1) (by omega)
            · refine mm_iconst (v := nI 1) dX12_ligature_113 (by decide) ?_
              refine mm_goto (tgt := 118) dX12_ligature_114 (by decide) ?_
              refine mn_top (u := .int (nI (Bool.toNat (lgDb x (k + 1))))) (congrArg Value.int (by rw [p2, c86, decide_eq_false (show ¬ k = 0 from c91), decide_eq_true c110]; rfl)) ?_
              refine mm_istore (L' := [(7, .int (nI (Bool.toNat (lgDb x (k + 1))))), (8, .int (nI (k))), (6, .int (nI (Bool.toNat (lgPb x (k + 1))))), (0, .ref (o)), (1, .int (nI (n))), (2, .int (nI (sh))), (3, .int (nI (m))), (4, .long (x))]) dX12_ligature_118 (by decide) rfl ?_
              refine mn_iinc (m := 1) (L' := [(8, .int (nI (k + 1))), (7, .int (nI (Bool.toNat (lgDb x (k + 1))))), (6, .int (nI (Bool.toNat (lgPb x (k + 1))))), (0, .ref (o)), (1, .int (nI (n))), (2, .int (nI (sh))), (3, .int (nI (m))), (4, .long (x))]) dX12_ligature_120 (by decide) 1 rfl (by decide) rfl ?_
              refine mm_goto (tgt := 46) dX12_ligature_123 (by decide) ?_
              refine mn_sub [0, 1, 2, 3, 4, 5, 6, 7] rfl ?_
              exact ih (k + 1) (by omega)
      refine mm_iload dX12_ligature_46 0 rfl ?_
      refine mm_iload_n dX12_ligature_48 rfl 6 rfl ?_
      refine mn_icmp_ge (tgt := 126) dX12_ligature_49 (by decide) (by omega) (by omega) (fun c49 => ?_) (fun c49 => ?_)
      · omega
      · refine mm_iload dX12_ligature_52 2 rfl ?_
        refine mn_ifB_eq (tgt := 81) dX12_ligature_54 (by decide) (fun c54 => ?_) (fun c54 => ?_)
        · refine mm_iconst (v := nI 0) dX12_ligature_81 (by decide) ?_
          refine mn_top (u := .int (nI (Bool.toNat (lgPb x (k + 1))))) (congrArg Value.int (by rw [p1, c54]; rfl)) ?_
          refine mm_istore (L' := [(6, .int (nI (Bool.toNat (lgPb x (k + 1))))), (8, .int (nI (k))), (7, .int (nI (Bool.toNat (lgDb x k)))), (0, .ref (o)), (1, .int (nI (n))), (2, .int (nI (sh))), (3, .int (nI (m))), (4, .long (x))]) dX12_ligature_82 (by decide) rfl ?_
          refine mn_sub [1, 2, 0, 3, 4, 5, 6, 7] rfl ?_
          exact j84
        · refine mm_lload dX12_ligature_57 7 rfl ?_
          refine mm_iload dX12_ligature_59 0 rfl ?_
          refine rm_callSr (As := [.long (x), .int (nI (k))]) (rest := []) (d2 := 0) dX12_ligature_61 zc_pitchIn rfl rfl (Nat.le_of_ble_eq_true rfl) (Nat.le_of_ble_eq_true rfl) (by decide) (tl_pitchIn (x := x) (k := k) (by omega)) ?_
          refine mm_i2l dX12_ligature_64 ?_
          refine mm_ldc2 (v := (-40)) dX12_ligature_65 zk_135 ?_
          refine mm_ldc2 (v := (40)) dX12_ligature_68 zk_137 ?_
          refine mn_top (u := .long (lN (40))) (congrArg Value.long (by decide)) ?_
          by_cases hp : (-40) ≤ ptc x k ∧ ptc x k ≤ nI 40
          · refine rm_callSr (As := [.long ((ptc x (k)).toInt64), .long ((-40)), .long (lN (40))]) (rest := []) (d2 := 0) dX12_ligature_71 zc_isIn rfl rfl (Nat.le_of_ble_eq_true rfl) (Nat.le_of_ble_eq_true rfl) (by decide) (tm_isIn _ _ _) ?_
            refine mn_top (u := .int (nI (Bool.toNat (true)))) (congrArg Value.int (in_t (a := -40) (b := 40) (by decide) (by decide) (by omega) (by omega) ((i32_pi hp).2))) ?_
            refine mn_ifB_eq (tgt := 81) dX12_ligature_74 (by decide) (fun c74 => ?_) (fun c74 => ?_)
            · cases c74
            · refine mm_iconst (v := nI 1) dX12_ligature_77 (by decide) ?_
              refine mm_goto (tgt := 82) dX12_ligature_78 (by decide) ?_
              refine mn_top (u := .int (nI (Bool.toNat (lgPb x (k + 1))))) (congrArg Value.int (by rw [p1, c54, decide_eq_true hp]; rfl)) ?_
              refine mm_istore (L' := [(6, .int (nI (Bool.toNat (lgPb x (k + 1))))), (8, .int (nI (k))), (7, .int (nI (Bool.toNat (lgDb x k)))), (0, .ref (o)), (1, .int (nI (n))), (2, .int (nI (sh))), (3, .int (nI (m))), (4, .long (x))]) dX12_ligature_82 (by decide) rfl ?_
              refine mn_sub [1, 2, 0, 3, 4, 5, 6, 7] rfl ?_
              exact j84
          · refine rm_callSr (As := [.long ((ptc x (k)).toInt64), .long ((-40)), .long (lN (40))]) (rest := []) (d2 := 0) dX12_ligature_71 zc_isIn rfl rfl (Nat.le_of_ble_eq_true rfl) (Nat.le_of_ble_eq_true rfl) (by decide) (tm_isIn _ _ _) ?_
            refine mn_top (u := .int (nI (Bool.toNat (false)))) (congrArg Value.int (in_f (a := -40) (b := 40) (by decide) (by decide) (by omega) (by omega) (pi_to hp))) ?_
            refine mn_ifB_eq (tgt := 81) dX12_ligature_74 (by decide) (fun c74 => ?_) (fun c74 => ?_)
            · refine mm_iconst (v := nI 0) dX12_ligature_81 (by decide) ?_
              refine mn_top (u := .int (nI (Bool.toNat (lgPb x (k + 1))))) (congrArg Value.int (by rw [p1, c54, decide_eq_false hp]; rfl)) ?_
              refine mm_istore (L' := [(6, .int (nI (Bool.toNat (lgPb x (k + 1))))), (8, .int (nI (k))), (7, .int (nI (Bool.toNat (lgDb x k)))), (0, .ref (o)), (1, .int (nI (n))), (2, .int (nI (sh))), (3, .int (nI (m))), (4, .long (x))]) dX12_ligature_82 (by decide) rfl ?_
              refine mn_sub [1, 2, 0, 3, 4, 5, 6, 7] rfl ?_
              exact j84
            · cases c74
  refine mm_aload_n dX12_ligature_0 rfl 0 rfl ?_
  refine mm_iload_n dX12_ligature_1 rfl 1 rfl ?_
  refine rm_callVr (As := [.int (nI (n))]) (rest := []) (d2 := 1) dX12_ligature_2 ha zc_isVoice zc_isVoice_s rfl rfl rfl (Nat.le_of_ble_eq_true rfl) (Nat.le_of_ble_eq_true rfl) (by decide) (tM_isVoice ha hW hI (nI_inb hn (by have := hW.1.1; omega))) ?_
  refine mn_ifB_eq (tgt := 34) dX12_ligature_5 (by decide) (fun c5 => ?_) (fun c5 => ?_)
  · cases c5
  · refine mm_iload_n dX12_ligature_8 rfl 2 rfl ?_
    refine mm_i2l dX12_ligature_9 ?_
    refine mm_lconst (v := lN 0) dX12_ligature_10 (by decide) ?_
    refine mm_ldc2 (v := (15)) dX12_ligature_11 zk_123 ?_
    refine mn_top (u := .long (lN (15))) (congrArg Value.long (by decide)) ?_
    refine rm_callSr (As := [.long ((nI (sh)).toInt64), .long (lN (0)), .long (lN (15))]) (rest := []) (d2 := 0) dX12_ligature_14 zc_isIn rfl rfl (Nat.le_of_ble_eq_true rfl) (Nat.le_of_ble_eq_true rfl) (by decide) (tm_isIn _ _ _) ?_
    refine mn_top (u := .int (nI (Bool.toNat (true)))) (congrArg Value.int (in_t (a := 0) (b := 15) (by decide) (by decide) (by omega) (by omega) ((nI_inb hsh (by decide)).imp id (fun z => by omega)))) ?_
    refine mn_ifB_eq (tgt := 34) dX12_ligature_17 (by decide) (fun c17 => ?_) (fun c17 => ?_)
    · cases c17
    · refine mm_iload_n dX12_ligature_20 rfl 3 rfl ?_
      refine mm_i2l dX12_ligature_21 ?_
      refine mm_ldc2 (v := (2)) dX12_ligature_22 zk_143 ?_
      refine mn_top (u := .long (lN (2))) (congrArg Value.long (by decide)) ?_
      refine mm_ldc2 (v := (8)) dX12_ligature_25 zk_145 ?_
      refine mn_top (u := .long (lN (8))) (congrArg Value.long (by decide)) ?_
      refine rm_callSr (As := [.long ((nI (m)).toInt64), .long (lN (2)), .long (lN (8))]) (rest := []) (d2 := 0) dX12_ligature_28 zc_isIn rfl rfl (Nat.le_of_ble_eq_true rfl) (Nat.le_of_ble_eq_true rfl) (by decide) (tm_isIn _ _ _) ?_
      refine mn_top (u := .int (nI (Bool.toNat (true)))) (congrArg Value.int (in_t (a := 2) (b := 8) (by decide) (by decide) (by omega) (by omega) (by rw [nI_toInt (by omega)]; omega))) ?_
      refine mn_ifB_ne (tgt := 37) dX12_ligature_31 (by decide) (fun c31 => ?_) (fun c31 => ?_)
      · refine mm_iconst (v := nI 1) dX12_ligature_37 (by decide) ?_
        refine mm_istore (L' := [(6, .int (nI (1))), (0, .ref (o)), (1, .int (nI (n))), (2, .int (nI (sh))), (3, .int (nI (m))), (4, .long (x))]) dX12_ligature_38 (by decide) rfl ?_
        refine mm_iconst (v := nI 1) dX12_ligature_40 (by decide) ?_
        refine mm_istore (L' := [(7, .int (nI (1))), (6, .int (nI (1))), (0, .ref (o)), (1, .int (nI (n))), (2, .int (nI (sh))), (3, .int (nI (m))), (4, .long (x))]) dX12_ligature_41 (by decide) rfl ?_
        refine mm_iconst (v := nI 0) dX12_ligature_43 (by decide) ?_
        refine mm_istore (L' := [(8, .int (nI (0))), (7, .int (nI (1))), (6, .int (nI (1))), (0, .ref (o)), (1, .int (nI (n))), (2, .int (nI (sh))), (3, .int (nI (m))), (4, .long (x))]) dX12_ligature_44 (by decide) rfl ?_
        refine mn_sub [0, 1, 2, 3, 4, 5, 6, 7] rfl ?_
        exact lp0 m 0 (by omega)
      · cases c31
set_option maxRecDepth 100000 in
set_option maxHeartbeats 4000000 in
theorem tM_lig {l : Launch} {D : va_G} {aa : Nat → ClassId} {b0 : Nat} {h : mm_H} {o : Nat} {F : Nat → Int32} {G : Nat → Int64} {A : Nat → Nat → Int32} {B : Nat → Nat → Int64} {s : aS} {n : Nat} {x : Int64} {sh m : Nat} (ha : rm_at o F G A B h) (hW : WF s) (hI : RI s F A B) (hn : n < aNv s) (hsh : sh < 16) (hm : 2 ≤ m ∧ m ≤ 8) (hP : lgP x m) (hS : lgS sh m x) (hroom : aSz s n + m ≤ 24) : mm_V (zz_K l D aa b0) 3 yX12_ligature cX12_ligature 11 (some .int) 0 [(0, .ref (o)), (1, .int (nI (n))), (2, .int (nI (sh))), (3, .int (nI (m))), (4, .long (x))] [] h 0 0 (fun r h' => r = some (.int (nI (aSz s n))) ∧ ∃ (F' : Nat → Int32) (A' : Nat → Nat → Int32), rm_at o F' G A' B h' ∧ rm_fr o h h' ∧ RI (aLig s n sh m x m) F' A' B) := by
  have hf : rm_fr o h h := rm_fr.rf
  have hn6 : n < 6 := by have := hW.1.1; omega
  have hvok := hW.2.1 n hn6
  have hsz24 : aSz s n ≤ 24 := hvok.1.2
  obtain ⟨⟨v1, w1⟩, ⟨v2, w2⟩, ⟨v3, w3⟩, ⟨v4, w4⟩, v5, w5⟩ := hI.1.2 n hn6
  have j126 : mm_V (zz_K l D aa b0) 3 yX12_ligature cX12_ligature 11 (some .int) 126 [(8, .int (nI (m))), (7, .int (nI (Bool.toNat (lgDb x m)))), (6, .int (nI (Bool.toNat (lgPb x m)))), (0, .ref (o)), (1, .int (nI (n))), (2, .int (nI (sh))), (3, .int (nI (m))), (4, .long (x))] [] h 0 0 (fun r h' => r = some (.int (nI (aSz s n))) ∧ ∃ (F' : Nat → Int32) (A' : Nat → Nat → Int32), rm_at o F' G A' B h' ∧ rm_fr o h h' ∧ RI (aLig s n sh m x m) F' A' B) := by
    refine mm_iload dX12_ligature_126 2 rfl ?_
    refine mn_ifB_ne (tgt := 134) dX12_ligature_128 (by decide) (fun c128 => ?_) (fun c128 => ?_)
    · refine mm_lload dX12_ligature_134 7 rfl ?_
      refine mm_iload_n dX12_ligature_136 rfl 6 rfl ?_
      refine mm_iconst (v := nI 1) dX12_ligature_137 (by decide) ?_
      refine mn_isub dX12_ligature_138 (by omega) ?_
      refine rm_callSr (As := [.long (x), .int (nI ((m) - (1)))]) (rest := []) (d2 := 0) dX12_ligature_139 zc_pitchIn rfl rfl (Nat.le_of_ble_eq_true rfl) (Nat.le_of_ble_eq_true rfl) (by decide) (tl_pitchIn (x := x) (k := (m) - (1)) (by omega)) ?_
      refine mm_lload dX12_ligature_142 7 rfl ?_
      refine mm_iload_n dX12_ligature_144 rfl 6 rfl ?_
      refine mm_iconst (v := nI 2) dX12_ligature_145 (by decide) ?_
      refine mn_isub dX12_ligature_146 (by omega) ?_
      refine rm_callSr (As := [.long (x), .int (nI ((m) - (2)))]) (rest := [.int (ptc x ((m) - (1)))]) (d2 := 0) dX12_ligature_147 zc_pitchIn rfl rfl (Nat.le_of_ble_eq_true rfl) (Nat.le_of_ble_eq_true rfl) (by decide) (tl_pitchIn (x := x) (k := (m) - (2)) (by omega)) ?_
      refine mn_top (u := .int (ptc x (m - 1 - 1))) (congrArg Value.int (by rw [show m - 2 = m - 1 - 1 from by omega])) ?_
      refine mm_icmp_ge (tgt := 157) dX12_ligature_150 (by decide) (fun c150 => ?_) (fun c150 => ?_)
      · refine mm_iconst (v := nI 0) dX12_ligature_157 (by decide) ?_
        refine mn_top (u := .int (nI (Bool.toNat (lgF x (m - 1))))) (congrArg Value.int (by rw [show lgF x (m - 1) = false from decide_eq_false (fun q => i32_nle q c150)]; rfl)) ?_
        refine mm_istore (L' := [(8, .int (nI (Bool.toNat (lgF x (m - 1))))), (7, .int (nI (Bool.toNat (lgDb x m)))), (6, .int (nI (Bool.toNat (lgPb x m)))), (0, .ref (o)), (1, .int (nI (n))), (2, .int (nI (sh))), (3, .int (nI (m))), (4, .long (x))]) dX12_ligature_158 (by decide) rfl ?_
        refine mm_iload dX12_ligature_160 1 rfl ?_
        refine mn_ifB_eq (tgt := 183) dX12_ligature_162 (by decide) (fun c162 => ?_) (fun c162 => ?_)
        · rw [(lgDb_t m).mpr hS.1] at c162; cases c162
        · refine mm_iload_n dX12_ligature_165 rfl 5 rfl ?_
          refine mm_iconst (v := nI 3) dX12_ligature_166 (by decide) ?_
          refine mm_iand dX12_ligature_167 ?_
          refine mn_top (u := .int (nI (sh % 4))) (congrArg Value.int (by rw [bI_and, and_3])) ?_
          refine mm_iconst (v := nI 3) dX12_ligature_168 (by decide) ?_
          refine mn_icmp_eq (tgt := 183) dX12_ligature_169 (by decide) (by omega) (by omega) (fun c169 => ?_) (fun c169 => ?_)
          · exact absurd c169 hS.2.1
          · refine mm_iload_n dX12_ligature_172 rfl 5 rfl ?_
            refine mm_iconst (v := nI 4) dX12_ligature_173 (by decide) ?_
            refine mm_iand dX12_ligature_174 ?_
            refine mn_top (u := .int (nI (4 * (sh / 4 % 2)))) (congrArg Value.int (by rw [bI_and, and_4])) ?_
            refine mn_if_eq (tgt := 186) dX12_ligature_175 (by decide) (by omega) (fun c175 => ?_) (fun c175 => ?_)
            · refine mm_aload_n dX12_ligature_186 rfl 3 rfl ?_
              refine rm_getA 2 dX12_ligature_187 ha zf_sizeOf (by decide) rfl ?_
              refine mm_iload_n dX12_ligature_190 rfl 4 rfl ?_
              refine rm_iald (k := 2) dX12_ligature_191 ha rfl rfl rfl (show n < 6 from (by omega)) ?_
              refine mn_top (u := .int (nI (aSz s n))) (congrArg Value.int (v2)) ?_
              refine mm_iload_n dX12_ligature_192 rfl 6 rfl ?_
              refine mn_iadd dX12_ligature_193 ?_
              refine mm_bipush (v := nI 24) dX12_ligature_194 (by decide) ?_
              refine mn_icmp_le (tgt := 202) dX12_ligature_196 (by decide) (by omega) (by omega) (fun c196 => ?_) (fun c196 => ?_)
              · refine mm_aload_n dX12_ligature_202 rfl 3 rfl ?_
                refine rm_getA 2 dX12_ligature_203 ha zf_sizeOf (by decide) rfl ?_
                refine mm_iload_n dX12_ligature_206 rfl 4 rfl ?_
                refine rm_iald (k := 2) dX12_ligature_207 ha rfl rfl rfl (show n < 6 from (by omega)) ?_
                refine mn_top (u := .int (nI (aSz s n))) (congrArg Value.int (v2)) ?_
                refine mm_istore (L' := [(9, .int (nI (aSz s n))), (8, .int (nI (Bool.toNat (lgF x (m - 1))))), (7, .int (nI (Bool.toNat (lgDb x m)))), (6, .int (nI (Bool.toNat (lgPb x m)))), (0, .ref (o)), (1, .int (nI (n))), (2, .int (nI (sh))), (3, .int (nI (m))), (4, .long (x))]) dX12_ligature_208 (by decide) rfl ?_
                refine mm_iconst (v := nI 0) dX12_ligature_210 (by decide) ?_
                refine mm_istore (L' := [(10, .int (nI (0))), (9, .int (nI (aSz s n))), (8, .int (nI (Bool.toNat (lgF x (m - 1))))), (7, .int (nI (Bool.toNat (lgDb x m)))), (6, .int (nI (Bool.toNat (lgPb x m)))), (0, .ref (o)), (1, .int (nI (n))), (2, .int (nI (sh))), (3, .int (nI (m))), (4, .long (x))]) dX12_ligature_211 (by decide) rfl ?_
                refine mn_sub [0, 1, 2, 5, 6, 7, 8, 9] rfl ?_
                suffices lp : ∀ (c k : Nat) (F1 : Nat → Int32) (A1 : Nat → Nat → Int32) (h1 : mm_H), k + c = m → RI (aLig s n sh m x k) F1 A1 B → rm_at o F1 G A1 B h1 → rm_fr o h h1 → mm_V (zz_K l D aa b0) 3 yX12_ligature cX12_ligature 11 (some .int) 213 [(10, .int (nI (k))), (9, .int (nI (aSz s n))), (8, .int (nI (Bool.toNat (lgF x (m - 1))))), (0, .ref (o)), (1, .int (nI (n))), (2, .int (nI (sh))), (3, .int (nI (m))), (4, .long (x))] [] h1 0 0 (fun r h' => r = some (.int (nI (aSz s n))) ∧ ∃ (F' : Nat → Int32) (A' : Nat → Nat → Int32), rm_at o F' G A' B h' ∧ rm_fr o h h' ∧ RI (aLig s n sh m x m) F' A' B) from lp m 0 F A h (by omega) hI ha hf
                intro c
                induction c with
                | zero =>
                  intro k F1 A1 h1 hk hI1 ha hf
                  refine mm_iload dX12_ligature_213 0 rfl ?_
                  refine mm_iload_n dX12_ligature_215 rfl 6 rfl ?_
                  refine mn_icmp_ge (tgt := 269) dX12_ligature_216 (by decide) (by omega) (by omega) (fun c216 => ?_) (fun c216 => ?_)
                  · have e : k = m := by omega
                    rw [e] at hI1
                    refine mm_iload dX12_ligature_269 1 rfl ?_
                    exact mm_iret dX12_ligature_271 rfl (⟨rfl, F1, A1, ha, hf, hI1⟩)
                  · omega
                | succ c ih =>
                  intro k F1 A1 h1 hk hI1 ha hf
                  refine mm_iload dX12_ligature_213 0 rfl ?_
                  refine mm_iload_n dX12_ligature_215 rfl 6 rfl ?_
                  refine mn_icmp_ge (tgt := 269) dX12_ligature_216 (by decide) (by omega) (by omega) (fun c216 => ?_) (fun c216 => ?_)
                  · omega
                  · obtain ⟨f1, f2⟩ := aLig_f (s := s) (v := n) (sh := sh) (n := m) (x := x) k
                    have hWk := aLig_W (sh := sh) hW hn hP hroom k (by omega)
                    have hnk : n < aNv (aLig s n sh m x k) := by rw [f1]; exact hn
                    have hrk2 : aSz (aLig s n sh m x k) n < 24 := by rw [f2]; omega
                    refine mm_aload_n dX12_ligature_219 rfl 3 rfl ?_
                    refine mm_iload_n dX12_ligature_220 rfl 4 rfl ?_
                    refine mm_iconst (v := nI 1) dX12_ligature_221 (by decide) ?_
                    refine mm_iload_n dX12_ligature_222 rfl 5 rfl ?_
                    refine mm_iload_n dX12_ligature_223 rfl 6 rfl ?_
                    refine mm_iload dX12_ligature_224 0 rfl ?_
                    refine mm_lload dX12_ligature_226 7 rfl ?_
                    refine mm_iconst (v := nI 1) dX12_ligature_228 (by decide) ?_
                    refine rm_callSr (As := [.long (x), .int (nI (1))]) (rest := [.int (nI (k)), .int (nI (m)), .int (nI (sh)), .int (nI (1)), .int (nI (n)), .ref (o)]) (d2 := 0) dX12_ligature_229 zc_pitchIn rfl rfl (Nat.le_of_ble_eq_true rfl) (Nat.le_of_ble_eq_true rfl) (by decide) (tl_pitchIn (x := x) (k := 1) (by omega)) ?_
                    refine mm_lload dX12_ligature_232 7 rfl ?_
                    refine mm_iconst (v := nI 0) dX12_ligature_234 (by decide) ?_
                    refine rm_callSr (As := [.long (x), .int (nI (0))]) (rest := [.int (ptc x (1)), .int (nI (k)), .int (nI (m)), .int (nI (sh)), .int (nI (1)), .int (nI (n)), .ref (o)]) (d2 := 0) dX12_ligature_235 zc_pitchIn rfl rfl (Nat.le_of_ble_eq_true rfl) (Nat.le_of_ble_eq_true rfl) (by decide) (tl_pitchIn (x := x) (k := 0) (by omega)) ?_
                    refine mm_icmp_ge (tgt := 245) dX12_ligature_238 (by decide) (fun c238 => ?_) (fun c238 => ?_)
                    · refine mm_iconst (v := nI 0) dX12_ligature_245 (by decide) ?_
                      refine mn_top (u := .int (nI (Bool.toNat (lgF x 1)))) (congrArg Value.int (by rw [show lgF x 1 = false from decide_eq_false (fun q => i32_nle q c238)]; rfl)) ?_
                      refine mm_iload dX12_ligature_246 2 rfl ?_
                      refine rm_callSr (As := [.int (nI (sh)), .int (nI (m)), .int (nI (k)), .int (nI (Bool.toNat (lgF x 1))), .int (nI (Bool.toNat (lgF x (m - 1))))]) (rest := [.int (nI (1)), .int (nI (n)), .ref (o)]) (d2 := 0) dX12_ligature_248 zc_ligatureKind rfl rfl (Nat.le_of_ble_eq_true rfl) (Nat.le_of_ble_eq_true rfl) (by decide) (tl_kind (x := x) hm hsh (by omega)) ?_
                      refine mm_lload dX12_ligature_251 7 rfl ?_
                      refine mm_iload dX12_ligature_253 0 rfl ?_
                      refine rm_callSr (As := [.long (x), .int (nI (k))]) (rest := [.int (nI (lgK sh m x k)), .int (nI (1)), .int (nI (n)), .ref (o)]) (d2 := 0) dX12_ligature_255 zc_pitchIn rfl rfl (Nat.le_of_ble_eq_true rfl) (Nat.le_of_ble_eq_true rfl) (by decide) (tl_pitchIn (x := x) (k := k) (by omega)) ?_
                      refine mm_iconst (v := nI 0) dX12_ligature_258 (by decide) ?_
                      refine mn_top (u := .int (nI (Bool.toNat false))) (congrArg Value.int (rfl)) ?_
                      refine mn_top2 (w := _) (u := .int (Int32.ofInt (ptc x k).toInt)) (congrArg Value.int (i32_pi (hP k (by omega))).1) ?_
                      refine rm_callV (As := [.int (nI (n)), .int (nI (1)), .int (nI (lgK sh m x k)), .int (Int32.ofInt (ptc x k).toInt), .int (nI (Bool.toNat (false)))]) (rest := []) (d2 := 1) dX12_ligature_259 ha zc_put zc_put_s rfl rfl rfl (Nat.le_of_ble_eq_true rfl) (Nat.le_of_ble_eq_true rfl) (by decide) (tM_put (so := 1) (ki := lgK sh m x k) (pi := (ptc x k).toInt) (co := false) ha hWk hI1 hnk hrk2 (by decide) lgK_lt (i32_pi (hP k (by omega))).2) (fun r h1 hq => ?_)
                      obtain ⟨rfl, F2, A2, ha, hf', hI2⟩ := hq
                      have hf := hf.tr hf'
                      refine mm_pop dX12_ligature_262 rfl ?_
                      refine mn_iinc (m := 1) (L' := [(10, .int (nI (k + 1))), (9, .int (nI (aSz s n))), (8, .int (nI (Bool.toNat (lgF x (m - 1))))), (0, .ref (o)), (1, .int (nI (n))), (2, .int (nI (sh))), (3, .int (nI (m))), (4, .long (x))]) dX12_ligature_263 (by decide) 0 rfl (by decide) rfl ?_
                      refine mm_goto (tgt := 213) dX12_ligature_266 (by decide) ?_
                      refine mn_sub [0, 1, 2, 3, 4, 5, 6, 7] rfl ?_
                      exact ih (k + 1) F2 A2 _ (by omega) hI2 ha hf
                    · refine mm_iconst (v := nI 1) dX12_ligature_241 (by decide) ?_
                      refine mm_goto (tgt := 246) dX12_ligature_242 (by decide) ?_
                      refine mn_top (u := .int (nI (Bool.toNat (lgF x 1)))) (congrArg Value.int (by rw [show lgF x 1 = true from decide_eq_true (Int32.not_le.mp c238)]; rfl)) ?_
                      refine mm_iload dX12_ligature_246 2 rfl ?_
                      refine rm_callSr (As := [.int (nI (sh)), .int (nI (m)), .int (nI (k)), .int (nI (Bool.toNat (lgF x 1))), .int (nI (Bool.toNat (lgF x (m - 1))))]) (rest := [.int (nI (1)), .int (nI (n)), .ref (o)]) (d2 := 0) dX12_ligature_248 zc_ligatureKind rfl rfl (Nat.le_of_ble_eq_true rfl) (Nat.le_of_ble_eq_true rfl) (by decide) (tl_kind (x := x) hm hsh (by omega)) ?_
                      refine mm_lload dX12_ligature_251 7 rfl ?_
                      refine mm_iload dX12_ligature_253 0 rfl ?_
                      refine rm_callSr (As := [.long (x), .int (nI (k))]) (rest := [.int (nI (lgK sh m x k)), .int (nI (1)), .int (nI (n)), .ref (o)]) (d2 := 0) dX12_ligature_255 zc_pitchIn rfl rfl (Nat.le_of_ble_eq_true rfl) (Nat.le_of_ble_eq_true rfl) (by decide) (tl_pitchIn (x := x) (k := k) (by omega)) ?_
                      refine mm_iconst (v := nI 0) dX12_ligature_258 (by decide) ?_
                      refine mn_top (u := .int (nI (Bool.toNat false))) (congrArg Value.int (rfl)) ?_
                      refine mn_top2 (w := _) (u := .int (Int32.ofInt (ptc x k).toInt)) (congrArg Value.int (i32_pi (hP k (by omega))).1) ?_
                      refine rm_callV (As := [.int (nI (n)), .int (nI (1)), .int (nI (lgK sh m x k)), .int (Int32.ofInt (ptc x k).toInt), .int (nI (Bool.toNat (false)))]) (rest := []) (d2 := 1) dX12_ligature_259 ha zc_put zc_put_s rfl rfl rfl (Nat.le_of_ble_eq_true rfl) (Nat.le_of_ble_eq_true rfl) (by decide) (tM_put (so := 1) (ki := lgK sh m x k) (pi := (ptc x k).toInt) (co := false) ha hWk hI1 hnk hrk2 (by decide) lgK_lt (i32_pi (hP k (by omega))).2) (fun r h1 hq => ?_)
                      obtain ⟨rfl, F2, A2, ha, hf', hI2⟩ := hq
                      have hf := hf.tr hf'
                      refine mm_pop dX12_ligature_262 rfl ?_
                      refine mn_iinc (m := 1) (L' := [(10, .int (nI (k + 1))), (9, .int (nI (aSz s n))), (8, .int (nI (Bool.toNat (lgF x (m - 1))))), (0, .ref (o)), (1, .int (nI (n))), (2, .int (nI (sh))), (3, .int (nI (m))), (4, .long (x))]) dX12_ligature_263 (by decide) 0 rfl (by decide) rfl ?_
                      refine mm_goto (tgt := 213) dX12_ligature_266 (by decide) ?_
                      refine mn_sub [0, 1, 2, 3, 4, 5, 6, 7] rfl ?_
                      exact ih (k + 1) F2 A2 _ (by omega) hI2 ha hf
              · omega
            · refine mm_iload dX12_ligature_178 0 rfl ?_
              refine mn_ifB_ne (tgt := 186) dX12_ligature_180 (by decide) (fun c180 => ?_) (fun c180 => ?_)
              · refine mm_aload_n dX12_ligature_186 rfl 3 rfl ?_
                refine rm_getA 2 dX12_ligature_187 ha zf_sizeOf (by decide) rfl ?_
                refine mm_iload_n dX12_ligature_190 rfl 4 rfl ?_
                refine rm_iald (k := 2) dX12_ligature_191 ha rfl rfl rfl (show n < 6 from (by omega)) ?_
                refine mn_top (u := .int (nI (aSz s n))) (congrArg Value.int (v2)) ?_
                refine mm_iload_n dX12_ligature_192 rfl 6 rfl ?_
                refine mn_iadd dX12_ligature_193 ?_
                refine mm_bipush (v := nI 24) dX12_ligature_194 (by decide) ?_
                refine mn_icmp_le (tgt := 202) dX12_ligature_196 (by decide) (by omega) (by omega) (fun c196 => ?_) (fun c196 => ?_)
                · refine mm_aload_n dX12_ligature_202 rfl 3 rfl ?_
                  refine rm_getA 2 dX12_ligature_203 ha zf_sizeOf (by decide) rfl ?_
                  refine mm_iload_n dX12_ligature_206 rfl 4 rfl ?_
                  refine rm_iald (k := 2) dX12_ligature_207 ha rfl rfl rfl (show n < 6 from (by omega)) ?_
                  refine mn_top (u := .int (nI (aSz s n))) (congrArg Value.int (v2)) ?_
                  refine mm_istore (L' := [(9, .int (nI (aSz s n))), (8, .int (nI (Bool.toNat (lgF x (m - 1))))), (7, .int (nI (Bool.toNat (lgDb x m)))), (6, .int (nI (Bool.toNat (lgPb x m)))), (0, .ref (o)), (1, .int (nI (n))), (2, .int (nI (sh))), (3, .int (nI (m))), (4, .long (x))]) dX12_ligature_208 (by decide) rfl ?_
                  refine mm_iconst (v := nI 0) dX12_ligature_210 (by decide) ?_
                  refine mm_istore (L' := [(10, .int (nI (0))), (9, .int (nI (aSz s n))), (8, .int (nI (Bool.toNat (lgF x (m - 1))))), (7, .int (nI (Bool.toNat (lgDb x m)))), (6, .int (nI (Bool.toNat (lgPb x m)))), (0, .ref (o)), (1, .int (nI (n))), (2, .int (nI (sh))), (3, .int (nI (m))), (4, .long (x))]) dX12_ligature_211 (by decide) rfl ?_
                  refine mn_sub [0, 1, 2, 5, 6, 7, 8, 9] rfl ?_
                  suffices lp : ∀ (c k : Nat) (F1 : Nat → Int32) (A1 : Nat → Nat → Int32) (h1 : mm_H), k + c = m → RI (aLig s n sh m x k) F1 A1 B → rm_at o F1 G A1 B h1 → rm_fr o h h1 → mm_V (zz_K l D aa b0) 3 yX12_ligature cX12_ligature 11 (some .int) 213 [(10, .int (nI (k))), (9, .int (nI (aSz s n))), (8, .int (nI (Bool.toNat (lgF x (m - 1))))), (0, .ref (o)), (1, .int (nI (n))), (2, .int (nI (sh))), (3, .int (nI (m))), (4, .long (x))] [] h1 0 0 (fun r h' => r = some (.int (nI (aSz s n))) ∧ ∃ (F' : Nat → Int32) (A' : Nat → Nat → Int32), rm_at o F' G A' B h' ∧ rm_fr o h h' ∧ RI (aLig s n sh m x m) F' A' B) from lp m 0 F A h (by omega) hI ha hf
                  intro c
                  induction c with
                  | zero =>
                    intro k F1 A1 h1 hk hI1 ha hf
                    refine mm_iload dX12_ligature_213 0 rfl ?_
                    refine mm_iload_n dX12_ligature_215 rfl 6 rfl ?_
                    refine mn_icmp_ge (tgt := 269) dX12_ligature_216 (by decide) (by omega) (by omega) (fun c216 => ?_) (fun c216 => ?_)
                    · have e : k = m := by omega
                      rw [e] at hI1
                      refine mm_iload dX12_ligature_269 1 rfl ?_
                      exact mm_iret dX12_ligature_271 rfl (⟨rfl, F1, A1, ha, hf, hI1⟩)
                    · omega
                  | succ c ih =>
                    intro k F1 A1 h1 hk hI1 ha hf
                    refine mm_iload dX12_ligature_213 0 rfl ?_
                    refine mm_iload_n dX12_ligature_215 rfl 6 rfl ?_
                    refine mn_icmp_ge (tgt := 269) dX12_ligature_216 (by decide) (by omega) (by omega) (fun c216 => ?_) (fun c216 => ?_)
                    · omega
                    · obtain ⟨f1, f2⟩ := aLig_f (s := s) (v := n) (sh := sh) (n := m) (x := x) k
                      have hWk := aLig_W (sh := sh) hW hn hP hroom k (by omega)
                      have hnk : n < aNv (aLig s n sh m x k) := by rw [f1]; exact hn
                      have hrk2 : aSz (aLig s n sh m x k) n < 24 := by rw [f2]; omega
                      refine mm_aload_n dX12_ligature_219 rfl 3 rfl ?_
                      refine mm_iload_n dX12_ligature_220 rfl 4 rfl ?_
                      refine mm_iconst (v := nI 1) dX12_ligature_221 (by decide) ?_
                      refine mm_iload_n dX12_ligature_222 rfl 5 rfl ?_
                      refine mm_iload_n dX12_ligature_223 rfl 6 rfl ?_
                      refine mm_iload dX12_ligature_224 0 rfl ?_
                      refine mm_lload dX12_ligature_226 7 rfl ?_
                      refine mm_iconst (v := nI 1) dX12_ligature_228 (by decide) ?_
                      refine rm_callSr (As := [.long (x), .int (nI (1))]) (rest := [.int (nI (k)), .int (nI (m)), .int (nI (sh)), .int (nI (1)), .int (nI (n)), .ref (o)]) (d2 := 0) dX12_ligature_229 zc_pitchIn rfl rfl (Nat.le_of_ble_eq_true rfl) (Nat.le_of_ble_eq_true rfl) (by decide) (tl_pitchIn (x := x) (k := 1) (by omega)) ?_
                      refine mm_lload dX12_ligature_232 7 rfl ?_
                      refine mm_iconst (v := nI 0) dX12_ligature_234 (by decide) ?_
                      refine rm_callSr (As := [.long (x), .int (nI (0))]) (rest := [.int (ptc x (1)), .int (nI (k)), .int (nI (m)), .int (nI (sh)), .int (nI (1)), .int (nI (n)), .ref (o)]) (d2 := 0) dX12_ligature_235 zc_pitchIn rfl rfl (Nat.le_of_ble_eq_true rfl) (Nat.le_of_ble_eq_true rfl) (by decide) (tl_pitchIn (x := x) (k := 0) (by omega)) ?_
                      refine mm_icmp_ge (tgt := 245) dX12_ligature_238 (by decide) (fun c238 => ?_) (fun c238 => ?_)
                      · refine mm_iconst (v := nI 0) dX12_ligature_245 (by decide) ?_
                        refine mn_top (u := .int (nI (Bool.toNat (lgF x 1)))) (congrArg Value.int (by rw [show lgF x 1 = false from decide_eq_false (fun q => i32_nle q c238)]; rfl)) ?_
                        refine mm_iload dX12_ligature_246 2 rfl ?_
                        refine rm_callSr (As := [.int (nI (sh)), .int (nI (m)), .int (nI (k)), .int (nI (Bool.toNat (lgF x 1))), .int (nI (Bool.toNat (lgF x (m - 1))))]) (rest := [.int (nI (1)), .int (nI (n)), .ref (o)]) (d2 := 0) dX12_ligature_248 zc_ligatureKind rfl rfl (Nat.le_of_ble_eq_true rfl) (Nat.le_of_ble_eq_true rfl) (by decide) (tl_kind (x := x) hm hsh (by omega)) ?_
                        refine mm_lload dX12_ligature_251 7 rfl ?_
                        refine mm_iload dX12_ligature_253 0 rfl ?_
                        refine rm_callSr (As := [.long (x), .int (nI (k))]) (rest := [.int (nI (lgK sh m x k)), .int (nI (1)), .int (nI (n)), .ref (o)]) (d2 := 0) dX12_ligature_255 zc_pitchIn rfl rfl (Nat.le_of_ble_eq_true rfl) (Nat.le_of_ble_eq_true rfl) (by decide) (tl_pitchIn (x := x) (k := k) (by omega)) ?_
                        refine mm_iconst (v := nI 0) dX12_ligature_258 (by decide) ?_
                        refine mn_top (u := .int (nI (Bool.toNat false))) (congrArg Value.int (rfl)) ?_
                        refine mn_top2 (w := _) (u := .int (Int32.ofInt (ptc x k).toInt)) (congrArg Value.int (i32_pi (hP k (by omega))).1) ?_
                        refine rm_callV (As := [.int (nI (n)), .int (nI (1)), .int (nI (lgK sh m x k)), .int (Int32.ofInt (ptc x k).toInt), .int (nI (Bool.toNat (false)))]) (rest := []) (d2 := 1) dX12_ligature_259 ha zc_put zc_put_s rfl rfl rfl (Nat.le_of_ble_eq_true rfl) (Nat.le_of_ble_eq_true rfl) (by decide) (tM_put (so := 1) (ki := lgK sh m x k) (pi := (ptc x k).toInt) (co := false) ha hWk hI1 hnk hrk2 (by decide) lgK_lt (i32_pi (hP k (by omega))).2) (fun r h1 hq => ?_)
                        obtain ⟨rfl, F2, A2, ha, hf', hI2⟩ := hq
                        have hf := hf.tr hf'
                        refine mm_pop dX12_ligature_262 rfl ?_
                        refine mn_iinc (m := 1) (L' := [(10, .int (nI (k + 1))), (9, .int (nI (aSz s n))), (8, .int (nI (Bool.toNat (lgF x (m - 1))))), (0, .ref (o)), (1, .int (nI (n))), (2, .int (nI (sh))), (3, .int (nI (m))), (4, .long (x))]) dX12_ligature_263 (by decide) 0 rfl (by decide) rfl ?_
                        refine mm_goto (tgt := 213) dX12_ligature_266 (by decide) ?_
                        refine mn_sub [0, 1, 2, 3, 4, 5, 6, 7] rfl ?_
                        exact ih (k + 1) F2 A2 _ (by omega) hI2 ha hf
                      · refine mm_iconst (v := nI 1) dX12_ligature_241 (by decide) ?_
                        refine mm_goto (tgt := 246) dX12_ligature_242 (by decide) ?_
                        refine mn_top (u := .int (nI (Bool.toNat (lgF x 1)))) (congrArg Value.int (by rw [show lgF x 1 = true from decide_eq_true (Int32.not_le.mp c238)]; rfl)) ?_
                        refine mm_iload dX12_ligature_246 2 rfl ?_
                        refine rm_callSr (As := [.int (nI (sh)), .int (nI (m)), .int (nI (k)), .int (nI (Bool.toNat (lgF x 1))), .int (nI (Bool.toNat (lgF x (m - 1))))]) (rest := [.int (nI (1)), .int (nI (n)), .ref (o)]) (d2 := 0) dX12_ligature_248 zc_ligatureKind rfl rfl (Nat.le_of_ble_eq_true rfl) (Nat.le_of_ble_eq_true rfl) (by decide) (tl_kind (x := x) hm hsh (by omega)) ?_
                        refine mm_lload dX12_ligature_251 7 rfl ?_
                        refine mm_iload dX12_ligature_253 0 rfl ?_
                        refine rm_callSr (As := [.long (x), .int (nI (k))]) (rest := [.int (nI (lgK sh m x k)), .int (nI (1)), .int (nI (n)), .ref (o)]) (d2 := 0) dX12_ligature_255 zc_pitchIn rfl rfl (Nat.le_of_ble_eq_true rfl) (Nat.le_of_ble_eq_true rfl) (by decide) (tl_pitchIn (x := x) (k := k) (by omega)) ?_
                        refine mm_iconst (v := nI 0) dX12_ligature_258 (by decide) ?_
                        refine mn_top (u := .int (nI (Bool.toNat false))) (congrArg Value.int (rfl)) ?_
                        refine mn_top2 (w := _) (u := .int (Int32.ofInt (ptc x k).toInt)) (congrArg Value.int (i32_pi (hP k (by omega))).1) ?_
                        refine rm_callV (As := [.int (nI (n)), .int (nI (1)), .int (nI (lgK sh m x k)), .int (Int32.ofInt (ptc x k).toInt), .int (nI (Bool.toNat (false)))]) (rest := []) (d2 := 1) dX12_ligature_259 ha zc_put zc_put_s rfl rfl rfl (Nat.le_of_ble_eq_true rfl) (Nat.le_of_ble_eq_true rfl) (by decide) (tM_put (so := 1) (ki := lgK sh m x k) (pi := (ptc x k).toInt) (co := false) ha hWk hI1 hnk hrk2 (by decide) lgK_lt (i32_pi (hP k (by omega))).2) (fun r h1 hq => ?_)
                        obtain ⟨rfl, F2, A2, ha, hf', hI2⟩ := hq
                        have hf := hf.tr hf'
                        refine mm_pop dX12_ligature_262 rfl ?_
                        refine mn_iinc (m := 1) (L' := [(10, .int (nI (k + 1))), (9, .int (nI (aSz s n))), (8, .int (nI (Bool.toNat (lgF x (m - 1))))), (0, .ref (o)), (1, .int (nI (n))), (2, .int (nI (sh))), (3, .int (nI (m))), (4, .long (x))]) dX12_ligature_263 (by decide) 0 rfl (by decide) rfl ?_
                        refine mm_goto (tgt := 213) dX12_ligature_266 (by decide) ?_
                        refine mn_sub [0, 1, 2, 3, 4, 5, 6, 7] rfl ?_
                        exact ih (k + 1) F2 A2 _ (by omega) hI2 ha hf
                · omega
              · exact absurd ⟨by omega, c180⟩ hS.2.2
      · refine mm_iconst (v := nI 1) dX12_ligature_153 (by decide) ?_
        refine mm_goto (tgt := 158) dX12_ligature_154 (by decide) ?_
        refine mn_top (u := .int (nI (Bool.toNat (lgF x (m - 1))))) (congrArg Value.int (by rw [show lgF x (m - 1) = true from decide_eq_true (Int32.not_le.mp c150)]; rfl)) ?_
        refine mm_istore (L' := [(8, .int (nI (Bool.toNat (lgF x (m - 1))))), (7, .int (nI (Bool.toNat (lgDb x m)))), (6, .int (nI (Bool.toNat (lgPb x m)))), (0, .ref (o)), (1, .int (nI (n))), (2, .int (nI (sh))), (3, .int (nI (m))), (4, .long (x))]) dX12_ligature_158 (by decide) rfl ?_
        refine mm_iload dX12_ligature_160 1 rfl ?_
        refine mn_ifB_eq (tgt := 183) dX12_ligature_162 (by decide) (fun c162 => ?_) (fun c162 => ?_)
        · rw [(lgDb_t m).mpr hS.1] at c162; cases c162
        · refine mm_iload_n dX12_ligature_165 rfl 5 rfl ?_
          refine mm_iconst (v := nI 3) dX12_ligature_166 (by decide) ?_
          refine mm_iand dX12_ligature_167 ?_
          refine mn_top (u := .int (nI (sh % 4))) (congrArg Value.int (by rw [bI_and, and_3])) ?_
          refine mm_iconst (v := nI 3) dX12_ligature_168 (by decide) ?_
          refine mn_icmp_eq (tgt := 183) dX12_ligature_169 (by decide) (by omega) (by omega) (fun c169 => ?_) (fun c169 => ?_)
          · exact absurd c169 hS.2.1
          · refine mm_iload_n dX12_ligature_172 rfl 5 rfl ?_
            refine mm_iconst (v := nI 4) dX12_ligature_173 (by decide) ?_
            refine mm_iand dX12_ligature_174 ?_
            refine mn_top (u := .int (nI (4 * (sh / 4 % 2)))) (congrArg Value.int (by rw [bI_and, and_4])) ?_
            refine mn_if_eq (tgt := 186) dX12_ligature_175 (by decide) (by omega) (fun c175 => ?_) (fun c175 => ?_)
            · refine mm_aload_n dX12_ligature_186 rfl 3 rfl ?_
              refine rm_getA 2 dX12_ligature_187 ha zf_sizeOf (by decide) rfl ?_
              refine mm_iload_n dX12_ligature_190 rfl 4 rfl ?_
              refine rm_iald (k := 2) dX12_ligature_191 ha rfl rfl rfl (show n < 6 from (by omega)) ?_
              refine mn_top (u := .int (nI (aSz s n))) (congrArg Value.int (v2)) ?_
              refine mm_iload_n dX12_ligature_192 rfl 6 rfl ?_
              refine mn_iadd dX12_ligature_193 ?_
              refine mm_bipush (v := nI 24) dX12_ligature_194 (by decide) ?_
              refine mn_icmp_le (tgt := 202) dX12_ligature_196 (by decide) (by omega) (by omega) (fun c196 => ?_) (fun c196 => ?_)
              · refine mm_aload_n dX12_ligature_202 rfl 3 rfl ?_
                refine rm_getA 2 dX12_ligature_203 ha zf_sizeOf (by decide) rfl ?_
                refine mm_iload_n dX12_ligature_206 rfl 4 rfl ?_
                refine rm_iald (k := 2) dX12_ligature_207 ha rfl rfl rfl (show n < 6 from (by omega)) ?_
                refine mn_top (u := .int (nI (aSz s n))) (congrArg Value.int (v2)) ?_
                refine mm_istore (L' := [(9, .int (nI (aSz s n))), (8, .int (nI (Bool.toNat (lgF x (m - 1))))), (7, .int (nI (Bool.toNat (lgDb x m)))), (6, .int (nI (Bool.toNat (lgPb x m)))), (0, .ref (o)), (1, .int (nI (n))), (2, .int (nI (sh))), (3, .int (nI (m))), (4, .long (x))]) dX12_ligature_208 (by decide) rfl ?_
                refine mm_iconst (v := nI 0) dX12_ligature_210 (by decide) ?_
                refine mm_istore (L' := [(10, .int (nI (0))), (9, .int (nI (aSz s n))), (8, .int (nI (Bool.toNat (lgF x (m - 1))))), (7, .int (nI (Bool.toNat (lgDb x m)))), (6, .int (nI (Bool.toNat (lgPb x m)))), (0, .ref (o)), (1, .int (nI (n))), (2, .int (nI (sh))), (3, .int (nI (m))), (4, .long (x))]) dX12_ligature_211 (by decide) rfl ?_
                refine mn_sub [0, 1, 2, 5, 6, 7, 8, 9] rfl ?_
                suffices lp : ∀ (c k : Nat) (F1 : Nat → Int32) (A1 : Nat → Nat → Int32) (h1 : mm_H), k + c = m → RI (aLig s n sh m x k) F1 A1 B → rm_at o F1 G A1 B h1 → rm_fr o h h1 → mm_V (zz_K l D aa b0) 3 yX12_ligature cX12_ligature 11 (some .int) 213 [(10, .int (nI (k))), (9, .int (nI (aSz s n))), (8, .int (nI (Bool.toNat (lgF x (m - 1))))), (0, .ref (o)), (1, .int (nI (n))), (2, .int (nI (sh))), (3, .int (nI (m))), (4, .long (x))] [] h1 0 0 (fun r h' => r = some (.int (nI (aSz s n))) ∧ ∃ (F' : Nat → Int32) (A' : Nat → Nat → Int32), rm_at o F' G A' B h' ∧ rm_fr o h h' ∧ RI (aLig s n sh m x m) F' A' B) from lp m 0 F A h (by omega) hI ha hf
                intro c
                induction c with
                | zero =>
                  intro k F1 A1 h1 hk hI1 ha hf
                  refine mm_iload dX12_ligature_213 0 rfl ?_
                  refine mm_iload_n dX12_ligature_215 rfl 6 rfl ?_
                  refine mn_icmp_ge (tgt := 269) dX12_ligature_216 (by decide) (by omega) (by omega) (fun c216 => ?_) (fun c216 => ?_)
                  · have e : k = m := by omega
                    rw [e] at hI1
                    refine mm_iload dX12_ligature_269 1 rfl ?_
                    exact mm_iret dX12_ligature_271 rfl (⟨rfl, F1, A1, ha, hf, hI1⟩)
                  · omega
                | succ c ih =>
                  intro k F1 A1 h1 hk hI1 ha hf
                  refine mm_iload dX12_ligature_213 0 rfl ?_
                  refine mm_iload_n dX12_ligature_215 rfl 6 rfl ?_
                  refine mn_icmp_ge (tgt := 269) dX12_ligature_216 (by decide) (by omega) (by omega) (fun c216 => ?_) (fun c216 => ?_)
                  · omega
                  · obtain ⟨f1, f2⟩ := aLig_f (s := s) (v := n) (sh := sh) (n := m) (x := x) k
                    have hWk := aLig_W (sh := sh) hW hn hP hroom k (by omega)
                    have hnk : n < aNv (aLig s n sh m x k) := by rw [f1]; exact hn
                    have hrk2 : aSz (aLig s n sh m x k) n < 24 := by rw [f2]; omega
                    refine mm_aload_n dX12_ligature_219 rfl 3 rfl ?_
                    refine mm_iload_n dX12_ligature_220 rfl 4 rfl ?_
                    refine mm_iconst (v := nI 1) dX12_ligature_221 (by decide) ?_
                    refine mm_iload_n dX12_ligature_222 rfl 5 rfl ?_
                    refine mm_iload_n dX12_ligature_223 rfl 6 rfl ?_
                    refine mm_iload dX12_ligature_224 0 rfl ?_
                    refine mm_lload dX12_ligature_226 7 rfl ?_
                    refine mm_iconst (v := nI 1) dX12_ligature_228 (by decide) ?_
                    refine rm_callSr (As := [.long (x), .int (nI (1))]) (rest := [.int (nI (k)), .int (nI (m)), .int (nI (sh)), .int (nI (1)), .int (nI (n)), .ref (o)]) (d2 := 0) dX12_ligature_229 zc_pitchIn rfl rfl (Nat.le_of_ble_eq_true rfl) (Nat.le_of_ble_eq_true rfl) (by decide) (tl_pitchIn (x := x) (k := 1) (by omega)) ?_
                    refine mm_lload dX12_ligature_232 7 rfl ?_
                    refine mm_iconst (v := nI 0) dX12_ligature_234 (by decide) ?_
                    refine rm_callSr (As := [.long (x), .int (nI (0))]) (rest := [.int (ptc x (1)), .int (nI (k)), .int (nI (m)), .int (nI (sh)), .int (nI (1)), .int (nI (n)), .ref (o)]) (d2 := 0) dX12_ligature_235 zc_pitchIn rfl rfl (Nat.le_of_ble_eq_true rfl) (Nat.le_of_ble_eq_true rfl) (by decide) (tl_pitchIn (x := x) (k := 0) (by omega)) ?_
                    refine mm_icmp_ge (tgt := 245) dX12_ligature_238 (by decide) (fun c238 => ?_) (fun c238 => ?_)
                    · refine mm_iconst (v := nI 0) dX12_ligature_245 (by decide) ?_
                      refine mn_top (u := .int (nI (Bool.toNat (lgF x 1)))) (congrArg Value.int (by rw [show lgF x 1 = false from decide_eq_false (fun q => i32_nle q c238)]; rfl)) ?_
                      refine mm_iload dX12_ligature_246 2 rfl ?_
                      refine rm_callSr (As := [.int (nI (sh)), .int (nI (m)), .int (nI (k)), .int (nI (Bool.toNat (lgF x 1))), .int (nI (Bool.toNat (lgF x (m - 1))))]) (rest := [.int (nI (1)), .int (nI (n)), .ref (o)]) (d2 := 0) dX12_ligature_248 zc_ligatureKind rfl rfl (Nat.le_of_ble_eq_true rfl) (Nat.le_of_ble_eq_true rfl) (by decide) (tl_kind (x := x) hm hsh (by omega)) ?_
                      refine mm_lload dX12_ligature_251 7 rfl ?_
                      refine mm_iload dX12_ligature_253 0 rfl ?_
                      refine rm_callSr (As := [.long (x), .int (nI (k))]) (rest := [.int (nI (lgK sh m x k)), .int (nI (1)), .int (nI (n)), .ref (o)]) (d2 := 0) dX12_ligature_255 zc_pitchIn rfl rfl (Nat.le_of_ble_eq_true rfl) (Nat.le_of_ble_eq_true rfl) (by decide) (tl_pitchIn (x := x) (k := k) (by omega)) ?_
                      refine mm_iconst (v := nI 0) dX12_ligature_258 (by decide) ?_
                      refine mn_top (u := .int (nI (Bool.toNat false))) (congrArg Value.int (rfl)) ?_
                      refine mn_top2 (w := _) (u := .int (Int32.ofInt (ptc x k).toInt)) (congrArg Value.int (i32_pi (hP k (by omega))).1) ?_
                      refine rm_callV (As := [.int (nI (n)), .int (nI (1)), .int (nI (lgK sh m x k)), .int (Int32.ofInt (ptc x k).toInt), .int (nI (Bool.toNat (false)))]) (rest := []) (d2 := 1) dX12_ligature_259 ha zc_put zc_put_s rfl rfl rfl (Nat.le_of_ble_eq_true rfl) (Nat.le_of_ble_eq_true rfl) (by decide) (tM_put (so := 1) (ki := lgK sh m x k) (pi := (ptc x k).toInt) (co := false) ha hWk hI1 hnk hrk2 (by decide) lgK_lt (i32_pi (hP k (by omega))).2) (fun r h1 hq => ?_)
                      obtain ⟨rfl, F2, A2, ha, hf', hI2⟩ := hq
                      have hf := hf.tr hf'
                      refine mm_pop dX12_ligature_262 rfl ?_
                      refine mn_iinc (m := 1) (L' := [(10, .int (nI (k + 1))), (9, .int (nI (aSz s n))), (8, .int (nI (Bool.toNat (lgF x (m - 1))))), (0, .ref (o)), (1, .int (nI (n))), (2, .int (nI (sh))), (3, .int (nI (m))), (4, .long (x))]) dX12_ligature_263 (by decide) 0 rfl (by decide) rfl ?_
                      refine mm_goto (tgt := 213) dX12_ligature_266 (by decide) ?_
                      refine mn_sub [0, 1, 2, 3, 4, 5, 6, 7] rfl ?_
                      exact ih (k + 1) F2 A2 _ (by omega) hI2 ha hf
                    · refine mm_iconst (v := nI 1) dX12_ligature_241 (by decide) ?_
                      refine mm_goto (tgt := 246) dX12_ligature_242 (by decide) ?_
                      refine mn_top (u := .int (nI (Bool.toNat (lgF x 1)))) (congrArg Value.int (by rw [show lgF x 1 = true from decide_eq_true (Int32.not_le.mp c238)]; rfl)) ?_
                      refine mm_iload dX12_ligature_246 2 rfl ?_
                      refine rm_callSr (As := [.int (nI (sh)), .int (nI (m)), .int (nI (k)), .int (nI (Bool.toNat (lgF x 1))), .int (nI (Bool.toNat (lgF x (m - 1))))]) (rest := [.int (nI (1)), .int (nI (n)), .ref (o)]) (d2 := 0) dX12_ligature_248 zc_ligatureKind rfl rfl (Nat.le_of_ble_eq_true rfl) (Nat.le_of_ble_eq_true rfl) (by decide) (tl_kind (x := x) hm hsh (by omega)) ?_
                      refine mm_lload dX12_ligature_251 7 rfl ?_
                      refine mm_iload dX12_ligature_253 0 rfl ?_
                      refine rm_callSr (As := [.long (x), .int (nI (k))]) (rest := [.int (nI (lgK sh m x k)), .int (nI (1)), .int (nI (n)), .ref (o)]) (d2 := 0) dX12_ligature_255 zc_pitchIn rfl rfl (Nat.le_of_ble_eq_true rfl) (Nat.le_of_ble_eq_true rfl) (by decide) (tl_pitchIn (x := x) (k := k) (by omega)) ?_
                      refine mm_iconst (v := nI 0) dX12_ligature_258 (by decide) ?_
                      refine mn_top (u := .int (nI (Bool.toNat false))) (congrArg Value.int (rfl)) ?_
                      refine mn_top2 (w := _) (u := .int (Int32.ofInt (ptc x k).toInt)) (congrArg Value.int (i32_pi (hP k (by omega))).1) ?_
                      refine rm_callV (As := [.int (nI (n)), .int (nI (1)), .int (nI (lgK sh m x k)), .int (Int32.ofInt (ptc x k).toInt), .int (nI (Bool.toNat (false)))]) (rest := []) (d2 := 1) dX12_ligature_259 ha zc_put zc_put_s rfl rfl rfl (Nat.le_of_ble_eq_true rfl) (Nat.le_of_ble_eq_true rfl) (by decide) (tM_put (so := 1) (ki := lgK sh m x k) (pi := (ptc x k).toInt) (co := false) ha hWk hI1 hnk hrk2 (by decide) lgK_lt (i32_pi (hP k (by omega))).2) (fun r h1 hq => ?_)
                      obtain ⟨rfl, F2, A2, ha, hf', hI2⟩ := hq
                      have hf := hf.tr hf'
                      refine mm_pop dX12_ligature_262 rfl ?_
                      refine mn_iinc (m := 1) (L' := [(10, .int (nI (k + 1))), (9, .int (nI (aSz s n))), (8, .int (nI (Bool.toNat (lgF x (m - 1))))), (0, .ref (o)), (1, .int (nI (n))), (2, .int (nI (sh))), (3, .int (nI (m))), (4, .long (x))]) dX12_ligature_263 (by decide) 0 rfl (by decide) rfl ?_
                      refine mm_goto (tgt := 213) dX12_ligature_266 (by decide) ?_
                      refine mn_sub [0, 1, 2, 3, 4, 5, 6, 7] rfl ?_
                      exact ih (k + 1) F2 A2 _ (by omega) hI2 ha hf
              · omega
            · refine mm_iload dX12_ligature_178 0 rfl ?_
              refine mn_ifB_ne (tgt := 186) dX12_ligature_180 (by decide) (fun c180 => ?_) (fun c180 => ?_)
              · refine mm_aload_n dX12_ligature_186 rfl 3 rfl ?_
                refine rm_getA 2 dX12_ligature_187 ha zf_sizeOf (by decide) rfl ?_
                refine mm_iload_n dX12_ligature_190 rfl 4 rfl ?_
                refine rm_iald (k := 2) dX12_ligature_191 ha rfl rfl rfl (show n < 6 from (by omega)) ?_
                refine mn_top (u := .int (nI (aSz s n))) (congrArg Value.int (v2)) ?_
                refine mm_iload_n dX12_ligature_192 rfl 6 rfl ?_
                refine mn_iadd dX12_ligature_193 ?_
                refine mm_bipush (v := nI 24) dX12_ligature_194 (by decide) ?_
                refine mn_icmp_le (tgt := 202) dX12_ligature_196 (by decide) (by omega) (by omega) (fun c196 => ?_) (fun c196 => ?_)
                · refine mm_aload_n dX12_ligature_202 rfl 3 rfl ?_
                  refine rm_getA 2 dX12_ligature_203 ha zf_sizeOf (by decide) rfl ?_
                  refine mm_iload_n dX12_ligature_206 rfl 4 rfl ?_
                  refine rm_iald (k := 2) dX12_ligature_207 ha rfl rfl rfl (show n < 6 from (by omega)) ?_
                  refine mn_top (u := .int (nI (aSz s n))) (congrArg Value.int (v2)) ?_
                  refine mm_istore (L' := [(9, .int (nI (aSz s n))), (8, .int (nI (Bool.toNat (lgF x (m - 1))))), (7, .int (nI (Bool.toNat (lgDb x m)))), (6, .int (nI (Bool.toNat (lgPb x m)))), (0, .ref (o)), (1, .int (nI (n))), (2, .int (nI (sh))), (3, .int (nI (m))), (4, .long (x))]) dX12_ligature_208 (by decide) rfl ?_
                  refine mm_iconst (v := nI 0) dX12_ligature_210 (by decide) ?_
                  refine mm_istore (L' := [(10, .int (nI (0))), (9, .int (nI (aSz s n))), (8, .int (nI (Bool.toNat (lgF x (m - 1))))), (7, .int (nI (Bool.toNat (lgDb x m)))), (6, .int (nI (Bool.toNat (lgPb x m)))), (0, .ref (o)), (1, .int (nI (n))), (2, .int (nI (sh))), (3, .int (nI (m))), (4, .long (x))]) dX12_ligature_211 (by decide) rfl ?_
                  refine mn_sub [0, 1, 2, 5, 6, 7, 8, 9] rfl ?_
                  suffices lp : ∀ (c k : Nat) (F1 : Nat → Int32) (A1 : Nat → Nat → Int32) (h1 : mm_H), k + c = m → RI (aLig s n sh m x k) F1 A1 B → rm_at o F1 G A1 B h1 → rm_fr o h h1 → mm_V (zz_K l D aa b0) 3 yX12_ligature cX12_ligature 11 (some .int) 213 [(10, .int (nI (k))), (9, .int (nI (aSz s n))), (8, .int (nI (Bool.toNat (lgF x (m - 1))))), (0, .ref (o)), (1, .int (nI (n))), (2, .int (nI (sh))), (3, .int (nI (m))), (4, .long (x))] [] h1 0 0 (fun r h' => r = some (.int (nI (aSz s n))) ∧ ∃ (F' : Nat → Int32) (A' : Nat → Nat → Int32), rm_at o F' G A' B h' ∧ rm_fr o h h' ∧ RI (aLig s n sh m x m) F' A' B) from lp m 0 F A h (by omega) hI ha hf
                  intro c
                  induction c with
                  | zero =>
                    intro k F1 A1 h1 hk hI1 ha hf
                    refine mm_iload dX12_ligature_213 0 rfl ?_
                    refine mm_iload_n dX12_ligature_215 rfl 6 rfl ?_
                    refine mn_icmp_ge (tgt := 269) dX12_ligature_216 (by decide) (by omega) (by omega) (fun c216 => ?_) (fun c216 => ?_)
                    · have e : k = m := by omega
                      rw [e] at hI1
                      refine mm_iload dX12_ligature_269 1 rfl ?_
                      exact mm_iret dX12_ligature_271 rfl (⟨rfl, F1, A1, ha, hf, hI1⟩)
                    · omega
                  | succ c ih =>
                    intro k F1 A1 h1 hk hI1 ha hf
                    refine mm_iload dX12_ligature_213 0 rfl ?_
                    refine mm_iload_n dX12_ligature_215 rfl 6 rfl ?_
                    refine mn_icmp_ge (tgt := 269) dX12_ligature_216 (by decide) (by omega) (by omega) (fun c216 => ?_) (fun c216 => ?_)
                    · omega
                    · obtain ⟨f1, f2⟩ := aLig_f (s := s) (v := n) (sh := sh) (n := m) (x := x) k
                      have hWk := aLig_W (sh := sh) hW hn hP hroom k (by omega)
                      have hnk : n < aNv (aLig s n sh m x k) := by rw [f1]; exact hn
                      have hrk2 : aSz (aLig s n sh m x k) n < 24 := by rw [f2]; omega
                      refine mm_aload_n dX12_ligature_219 rfl 3 rfl ?_
                      refine mm_iload_n dX12_ligature_220 rfl 4 rfl ?_
                      refine mm_iconst (v := nI 1) dX12_ligature_221 (by decide) ?_
                      refine mm_iload_n dX12_ligature_222 rfl 5 rfl ?_
                      refine mm_iload_n dX12_ligature_223 rfl 6 rfl ?_
                      refine mm_iload dX12_ligature_224 0 rfl ?_
                      refine mm_lload dX12_ligature_226 7 rfl ?_
                      refine mm_iconst (v := nI 1) dX12_ligature_228 (by decide) ?_
                      refine rm_callSr (As := [.long (x), .int (nI (1))]) (rest := [.int (nI (k)), .int (nI (m)), .int (nI (sh)), .int (nI (1)), .int (nI (n)), .ref (o)]) (d2 := 0) dX12_ligature_229 zc_pitchIn rfl rfl (Nat.le_of_ble_eq_true rfl) (Nat.le_of_ble_eq_true rfl) (by decide) (tl_pitchIn (x := x) (k := 1) (by omega)) ?_
                      refine mm_lload dX12_ligature_232 7 rfl ?_
                      refine mm_iconst (v := nI 0) dX12_ligature_234 (by decide) ?_
                      refine rm_callSr (As := [.long (x), .int (nI (0))]) (rest := [.int (ptc x (1)), .int (nI (k)), .int (nI (m)), .int (nI (sh)), .int (nI (1)), .int (nI (n)), .ref (o)]) (d2 := 0) dX12_ligature_235 zc_pitchIn rfl rfl (Nat.le_of_ble_eq_true rfl) (Nat.le_of_ble_eq_true rfl) (by decide) (tl_pitchIn (x := x) (k := 0) (by omega)) ?_
                      refine mm_icmp_ge (tgt := 245) dX12_ligature_238 (by decide) (fun c238 => ?_) (fun c238 => ?_)
                      · refine mm_iconst (v := nI 0) dX12_ligature_245 (by decide) ?_
                        refine mn_top (u := .int (nI (Bool.toNat (lgF x 1)))) (congrArg Value.int (by rw [show lgF x 1 = false from decide_eq_false (fun q => i32_nle q c238)]; rfl)) ?_
                        refine mm_iload dX12_ligature_246 2 rfl ?_
                        refine rm_callSr (As := [.int (nI (sh)), .int (nI (m)), .int (nI (k)), .int (nI (Bool.toNat (lgF x 1))), .int (nI (Bool.toNat (lgF x (m - 1))))]) (rest := [.int (nI (1)), .int (nI (n)), .ref (o)]) (d2 := 0) dX12_ligature_248 zc_ligatureKind rfl rfl (Nat.le_of_ble_eq_true rfl) (Nat.le_of_ble_eq_true rfl) (by decide) (tl_kind (x := x) hm hsh (by omega)) ?_
                        refine mm_lload dX12_ligature_251 7 rfl ?_
                        refine mm_iload dX12_ligature_253 0 rfl ?_
                        refine rm_callSr (As := [.long (x), .int (nI (k))]) (rest := [.int (nI (lgK sh m x k)), .int (nI (1)), .int (nI (n)), .ref (o)]) (d2 := 0) dX12_ligature_255 zc_pitchIn rfl rfl (Nat.le_of_ble_eq_true rfl) (Nat.le_of_ble_eq_true rfl) (by decide) (tl_pitchIn (x := x) (k := k) (by omega)) ?_
                        refine mm_iconst (v := nI 0) dX12_ligature_258 (by decide) ?_
                        refine mn_top (u := .int (nI (Bool.toNat false))) (congrArg Value.int (rfl)) ?_
                        refine mn_top2 (w := _) (u := .int (Int32.ofInt (ptc x k).toInt)) (congrArg Value.int (i32_pi (hP k (by omega))).1) ?_
                        refine rm_callV (As := [.int (nI (n)), .int (nI (1)), .int (nI (lgK sh m x k)), .int (Int32.ofInt (ptc x k).toInt), .int (nI (Bool.toNat (false)))]) (rest := []) (d2 := 1) dX12_ligature_259 ha zc_put zc_put_s rfl rfl rfl (Nat.le_of_ble_eq_true rfl) (Nat.le_of_ble_eq_true rfl) (by decide) (tM_put (so := 1) (ki := lgK sh m x k) (pi := (ptc x k).toInt) (co := false) ha hWk hI1 hnk hrk2 (by decide) lgK_lt (i32_pi (hP k (by omega))).2) (fun r h1 hq => ?_)
                        obtain ⟨rfl, F2, A2, ha, hf', hI2⟩ := hq
                        have hf := hf.tr hf'
                        refine mm_pop dX12_ligature_262 rfl ?_
                        refine mn_iinc (m := 1) (L' := [(10, .int (nI (k + 1))), (9, .int (nI (aSz s n))), (8, .int (nI (Bool.toNat (lgF x (m - 1))))), (0, .ref (o)), (1, .int (nI (n))), (2, .int (nI (sh))), (3, .int (nI (m))), (4, .long (x))]) dX12_ligature_263 (by decide) 0 rfl (by decide) rfl ?_
                        refine mm_goto (tgt := 213) dX12_ligature_266 (by decide) ?_
                        refine mn_sub [0, 1, 2, 3, 4, 5, 6, 7] rfl ?_
                        exact ih (k + 1) F2 A2 _ (by omega) hI2 ha hf
                      · refine mm_iconst (v := nI 1) dX12_ligature_241 (by decide) ?_
                        refine mm_goto (tgt := 246) dX12_ligature_242 (by decide) ?_
                        refine mn_top (u := .int (nI (Bool.toNat (lgF x 1)))) (congrArg Value.int (by rw [show lgF x 1 = true from decide_eq_true (Int32.not_le.mp c238)]; rfl)) ?_
                        refine mm_iload dX12_ligature_246 2 rfl ?_
                        refine rm_callSr (As := [.int (nI (sh)), .int (nI (m)), .int (nI (k)), .int (nI (Bool.toNat (lgF x 1))), .int (nI (Bool.toNat (lgF x (m - 1))))]) (rest := [.int (nI (1)), .int (nI (n)), .ref (o)]) (d2 := 0) dX12_ligature_248 zc_ligatureKind rfl rfl (Nat.le_of_ble_eq_true rfl) (Nat.le_of_ble_eq_true rfl) (by decide) (tl_kind (x := x) hm hsh (by omega)) ?_
                        refine mm_lload dX12_ligature_251 7 rfl ?_
                        refine mm_iload dX12_ligature_253 0 rfl ?_
                        refine rm_callSr (As := [.long (x), .int (nI (k))]) (rest := [.int (nI (lgK sh m x k)), .int (nI (1)), .int (nI (n)), .ref (o)]) (d2 := 0) dX12_ligature_255 zc_pitchIn rfl rfl (Nat.le_of_ble_eq_true rfl) (Nat.le_of_ble_eq_true rfl) (by decide) (tl_pitchIn (x := x) (k := k) (by omega)) ?_
                        refine mm_iconst (v := nI 0) dX12_ligature_258 (by decide) ?_
                        refine mn_top (u := .int (nI (Bool.toNat false))) (congrArg Value.int (rfl)) ?_
                        refine mn_top2 (w := _) (u := .int (Int32.ofInt (ptc x k).toInt)) (congrArg Value.int (i32_pi (hP k (by omega))).1) ?_
                        refine rm_callV (As := [.int (nI (n)), .int (nI (1)), .int (nI (lgK sh m x k)), .int (Int32.ofInt (ptc x k).toInt), .int (nI (Bool.toNat (false)))]) (rest := []) (d2 := 1) dX12_ligature_259 ha zc_put zc_put_s rfl rfl rfl (Nat.le_of_ble_eq_true rfl) (Nat.le_of_ble_eq_true rfl) (by decide) (tM_put (so := 1) (ki := lgK sh m x k) (pi := (ptc x k).toInt) (co := false) ha hWk hI1 hnk hrk2 (by decide) lgK_lt (i32_pi (hP k (by omega))).2) (fun r h1 hq => ?_)
                        obtain ⟨rfl, F2, A2, ha, hf', hI2⟩ := hq
                        have hf := hf.tr hf'
                        refine mm_pop dX12_ligature_262 rfl ?_
                        refine mn_iinc (m := 1) (L' := [(10, .int (nI (k + 1))), (9, .int (nI (aSz s n))), (8, .int (nI (Bool.toNat (lgF x (m - 1))))), (0, .ref (o)), (1, .int (nI (n))), (2, .int (nI (sh))), (3, .int (nI (m))), (4, .long (x))]) dX12_ligature_263 (by decide) 0 rfl (by decide) rfl ?_
                        refine mm_goto (tgt := 213) dX12_ligature_266 (by decide) ?_
                        refine mn_sub [0, 1, 2, 3, 4, 5, 6, 7] rfl ?_
                        exact ih (k + 1) F2 A2 _ (by omega) hI2 ha hf
                · omega
              · exact absurd ⟨by omega, c180⟩ hS.2.2
    · rw [(lgPb_t m).mpr hP] at c128; cases c128
  have lp0 : ∀ (c k : Nat), k + c = m → mm_V (zz_K l D aa b0) 3 yX12_ligature cX12_ligature 11 (some .int) 46 [(8, .int (nI (k))), (7, .int (nI (Bool.toNat (lgDb x k)))), (6, .int (nI (Bool.toNat (lgPb x k)))), (0, .ref (o)), (1, .int (nI (n))), (2, .int (nI (sh))), (3, .int (nI (m))), (4, .long (x))] [] h 0 0 (fun r h' => r = some (.int (nI (aSz s n))) ∧ ∃ (F' : Nat → Int32) (A' : Nat → Nat → Int32), rm_at o F' G A' B h' ∧ rm_fr o h h' ∧ RI (aLig s n sh m x m) F' A' B) := by
    intro c
    induction c with
    | zero =>
      intro k hk
      refine mm_iload dX12_ligature_46 0 rfl ?_
      refine mm_iload_n dX12_ligature_48 rfl 6 rfl ?_
      refine mn_icmp_ge (tgt := 126) dX12_ligature_49 (by decide) (by omega) (by omega) (fun c49 => ?_) (fun c49 => ?_)
      · have e : k = m := by omega
        rw [e]
        exact j126
      · omega
    | succ c ih =>
      intro k hk
      have p1 : lgPb x (k + 1) = (lgPb x k && decide ((-40) ≤ ptc x k ∧ ptc x k ≤ nI 40)) := rfl
      have p2 : lgDb x (k + 1) = (lgDb x k && (decide (k = 0) || decide (ptc x k ≠ ptc x (k - 1)))) := rfl
      have j84 : mm_V (zz_K l D aa b0) 3 yX12_ligature cX12_ligature 11 (some .int) 84 [(8, .int (nI (k))), (7, .int (nI (Bool.toNat (lgDb x k)))), (6, .int (nI (Bool.toNat (lgPb x (k + 1))))), (0, .ref (o)), (1, .int (nI (n))), (2, .int (nI (sh))), (3, .int (nI (m))), (4, .long (x))] [] h 0 0 (fun r h' => r = some (.int (nI (aSz s n))) ∧ ∃ (F' : Nat → Int32) (A' : Nat → Nat → Int32), rm_at o F' G A' B h' ∧ rm_fr o h h' ∧ RI (aLig s n sh m x m) F' A' B) := by
        refine mm_iload dX12_ligature_84 1 rfl ?_
        refine mn_ifB_eq (tgt := 117) dX12_ligature_86 (by decide) (fun c86 => ?_) (fun c86 => ?_)
        · refine mm_iconst (v := nI 0) dX12_ligature_117 (by decide) ?_
          refine mn_top (u := .int (nI (Bool.toNat (lgDb x (k + 1))))) (congrArg Value.int (by rw [p2, c86]; rfl)) ?_
          refine mm_istore (L' := [(7, .int (nI (Bool.toNat (lgDb x (k + 1))))), (8, .int (nI (k))), (6, .int (nI (Bool.toNat (lgPb x (k + 1))))), (0, .ref (o)), (1, .int (nI (n))), (2, .int (nI (sh))), (3, .int (nI (m))), (4, .long (x))]) dX12_ligature_118 (by decide) rfl ?_
          refine mn_iinc (m := 1) (L' := [(8, .int (nI (k + 1))), (7, .int (nI (Bool.toNat (lgDb x (k + 1))))), (6, .int (nI (Bool.toNat (lgPb x (k + 1))))), (0, .ref (o)), (1, .int (nI (n))), (2, .int (nI (sh))), (3, .int (nI (m))), (4, .long (x))]) dX12_ligature_120 (by decide) 1 rfl (by decide) rfl ?_
          refine mm_goto (tgt := 46) dX12_ligature_123 (by decide) ?_
          refine mn_sub [0, 1, 2, 3, 4, 5, 6, 7] rfl ?_
          exact ih (k + 1) (by omega)
        · refine mm_iload dX12_ligature_89 0 rfl ?_
          refine mn_if_eq (tgt := 113) dX12_ligature_91 (by decide) (by omega) (fun c91 => ?_) (fun c91 => ?_)
          · refine mm_iconst (v := nI 1) dX12_ligature_113 (by decide) ?_
            refine mm_goto (tgt := 118) dX12_ligature_114 (by decide) ?_
            refine mn_top (u := .int (nI (Bool.toNat (lgDb x (k + 1))))) (congrArg Value.int (by rw [p2, c86, decide_eq_true (show k = 0 from c91)]; rfl)) ?_
            refine mm_istore (L' := [(7, .int (nI (Bool.toNat (lgDb x (k + 1))))), (8, .int (nI (k))), (6, .int (nI (Bool.toNat (lgPb x (k + 1))))), (0, .ref (o)), (1, .int (nI (n))), (2, .int (nI (sh))), (3, .int (nI (m))), (4, .long (x))]) dX12_ligature_118 (by decide) rfl ?_
            refine mn_iinc (m := 1) (L' := [(8, .int (nI (k + 1))), (7, .int (nI (Bool.toNat (lgDb x (k + 1))))), (6, .int (nI (Bool.toNat (lgPb x (k + 1))))), (0, .ref (o)), (1, .int (nI (n))), (2, .int (nI (sh))), (3, .int (nI (m))), (4, .long (x))]) dX12_ligature_120 (by decide) 1 rfl (by decide) rfl ?_
            refine mm_goto (tgt := 46) dX12_ligature_123 (by decide) ?_
            refine mn_sub [0, 1, 2, 3, 4, 5, 6, 7] rfl ?_
            exact ih (k + 1) (by omega)
          · refine mm_lload dX12_ligature_94 7 rfl ?_
            refine mm_iload dX12_ligature_96 0 rfl ?_
            refine rm_callSr (As := [.long (x), .int (nI (k))]) (rest := []) (d2 := 0) dX12_ligature_98 zc_pitchIn rfl rfl (Nat.le_of_ble_eq_true rfl) (Nat.le_of_ble_eq_true rfl) (by decide) (tl_pitchIn (x := x) (k := k) (by omega)) ?_
            refine mm_lload dX12_ligature_101 7 rfl ?_
            refine mm_iload dX12_ligature_103 0 rfl ?_
            refine mm_iconst (v := nI 1) dX12_ligature_105 (by decide) ?_
            refine mn_isub dX12_ligature_106 (by omega) ?_
            refine rm_callSr (As := [.long (x), .int (nI ((k) - (1)))]) (rest := [.int (ptc x (k))]) (d2 := 0) dX12_ligature_107 zc_pitchIn rfl rfl (Nat.le_of_ble_eq_true rfl) (Nat.le_of_ble_eq_true rfl) (by decide) (tl_pitchIn (x := x) (k := (k) - (1)) (by omega)) ?_
            refine mm_icmp_eq (tgt := 117) dX12_ligature_110 (by decide) (fun c110 => ?_) (fun c110 => ?_)
            · refine mm_iconst (v := nI 0) dX12_ligature_117 (by decide) ?_
              refine mn_top (u := .int (nI (Bool.toNat (lgDb x (k + 1))))) (congrArg Value.int (by rw [p2, c86, decide_eq_false (show ¬ k = 0 from c91), decide_eq_false (fun q => q c110)]; rfl)) ?_
              refine mm_istore (L' := [(7, .int (nI (Bool.toNat (lgDb x (k + 1))))), (8, .int (nI (k))), (6, .int (nI (Bool.toNat (lgPb x (k + 1))))), (0, .ref (o)), (1, .int (nI (n))), (2, .int (nI (sh))), (3, .int (nI (m))), (4, .long (x))]) dX12_ligature_118 (by decide) rfl ?_
              refine mn_iinc (m := 1) (L' := [(8, .int (nI (k + 1))), (7, .int (nI (Bool.toNat (lgDb x (k + 1))))), (6, .int (nI (Bool.toNat (lgPb x (k + 1))))), (0, .ref (o)), (1, .int (nI (n))), (2, .int (nI (sh))), (3, .int (nI (m))), (4, .long (x))]) dX12_ligature_120 (by decide) 1 rfl (by decide) rfl ?_
              refine mm_goto (tgt := 46) dX12_ligature_123 (by decide) ?_
              refine mn_sub [0, 1, 2, 3, 4, 5, 6, 7] rfl ?_
              exact ih (k + 1) (by omega)
            · refine mm_iconst (v := nI 1) dX12_ligature_113 (by decide) ?_
              refine mm_goto (tgt := 118) dX12_ligature_114 (by decide) ?_
              refine mn_top (u := .int (nI (Bool.toNat (lgDb x (k + 1))))) (congrArg Value.int (by rw [p2, c86, decide_eq_false (show ¬ k = 0 from c91), decide_eq_true c110]; rfl)) ?_
              refine mm_istore (L' := [(7, .int (nI (Bool.toNat (lgDb x (k + 1))))), (8, .int (nI (k))), (6, .int (nI (Bool.toNat (lgPb x (k + 1))))), (0, .ref (o)), (1, .int (nI (n))), (2, .int (nI (sh))), (3, .int (nI (m))), (4, .long (x))]) dX12_ligature_118 (by decide) rfl ?_
              refine mn_iinc (m := 1) (L' := [(8, .int (nI (k + 1))), (7, .int (nI (Bool.toNat (lgDb x (k + 1))))), (6, .int (nI (Bool.toNat (lgPb x (k + 1))))), (0, .ref (o)), (1, .int (nI (n))), (2, .int (nI (sh))), (3, .int (nI (m))), (4, .long (x))]) dX12_ligature_120 (by decide) 1 rfl (by decide) rfl ?_
              refine mm_goto (tgt := 46) dX12_ligature_123 (by decide) ?_
              refine mn_sub [0, 1, 2, 3, 4, 5, 6, 7] rfl ?_
              exact ih (k + 1) (by omega)
      refine mm_iload dX12_ligature_46 0 rfl ?_
      refine mm_iload_n dX12_ligature_48 rfl 6 rfl ?_
      refine mn_icmp_ge (tgt := 126) dX12_ligature_49 (by decide) (by omega) (by omega) (fun c49 => ?_) (fun c49 => ?_)
      · omega
      · refine mm_iload dX12_ligature_52 2 rfl ?_
        refine mn_ifB_eq (tgt := 81) dX12_ligature_54 (by decide) (fun c54 => ?_) (fun c54 => ?_)
        · refine mm_iconst (v := nI 0) dX12_ligature_81 (by decide) ?_
          refine mn_top (u := .int (nI (Bool.toNat (lgPb x (k + 1))))) (congrArg Value.int (by rw [p1, c54]; rfl)) ?_
          refine mm_istore (L' := [(6, .int (nI (Bool.toNat (lgPb x (k + 1))))), (8, .int (nI (k))), (7, .int (nI (Bool.toNat (lgDb x k)))), (0, .ref (o)), (1, .int (nI (n))), (2, .int (nI (sh))), (3, .int (nI (m))), (4, .long (x))]) dX12_ligature_82 (by decide) rfl ?_
          refine mn_sub [1, 2, 0, 3, 4, 5, 6, 7] rfl ?_
          exact j84
        · refine mm_lload dX12_ligature_57 7 rfl ?_
          refine mm_iload dX12_ligature_59 0 rfl ?_
          refine rm_callSr (As := [.long (x), .int (nI (k))]) (rest := []) (d2 := 0) dX12_ligature_61 zc_pitchIn rfl rfl (Nat.le_of_ble_eq_true rfl) (Nat.le_of_ble_eq_true rfl) (by decide) (tl_pitchIn (x := x) (k := k) (by omega)) ?_
          refine mm_i2l dX12_ligature_64 ?_
          refine mm_ldc2 (v := (-40)) dX12_ligature_65 zk_135 ?_
          refine mm_ldc2 (v := (40)) dX12_ligature_68 zk_137 ?_
          refine mn_top (u := .long (lN (40))) (congrArg Value.long (by decide)) ?_
          by_cases hp : (-40) ≤ ptc x k ∧ ptc x k ≤ nI 40
          · refine rm_callSr (As := [.long ((ptc x (k)).toInt64), .long ((-40)), .long (lN (40))]) (rest := []) (d2 := 0) dX12_ligature_71 zc_isIn rfl rfl (Nat.le_of_ble_eq_true rfl) (Nat.le_of_ble_eq_true rfl) (by decide) (tm_isIn _ _ _) ?_
            refine mn_top (u := .int (nI (Bool.toNat (true)))) (congrArg Value.int (in_t (a := -40) (b := 40) (by decide) (by decide) (by omega) (by omega) ((i32_pi hp).2))) ?_
            refine mn_ifB_eq (tgt := 81) dX12_ligature_74 (by decide) (fun c74 => ?_) (fun c74 => ?_)
            · cases c74
            · refine mm_iconst (v := nI 1) dX12_ligature_77 (by decide) ?_
              refine mm_goto (tgt := 82) dX12_ligature_78 (by decide) ?_
              refine mn_top (u := .int (nI (Bool.toNat (lgPb x (k + 1))))) (congrArg Value.int (by rw [p1, c54, decide_eq_true hp]; rfl)) ?_
              refine mm_istore (L' := [(6, .int (nI (Bool.toNat (lgPb x (k + 1))))), (8, .int (nI (k))), (7, .int (nI (Bool.toNat (lgDb x k)))), (0, .ref (o)), (1, .int (nI (n))), (2, .int (nI (sh))), (3, .int (nI (m))), (4, .long (x))]) dX12_ligature_82 (by decide) rfl ?_
              refine mn_sub [1, 2, 0, 3, 4, 5, 6, 7] rfl ?_
              exact j84
          · refine rm_callSr (As := [.long ((ptc x (k)).toInt64), .long ((-40)), .long (lN (40))]) (rest := []) (d2 := 0) dX12_ligature_71 zc_isIn rfl rfl (Nat.le_of_ble_eq_true rfl) (Nat.le_of_ble_eq_true rfl) (by decide) (tm_isIn _ _ _) ?_
            refine mn_top (u := .int (nI (Bool.toNat (false)))) (congrArg Value.int (in_f (a := -40) (b := 40) (by decide) (by decide) (by omega) (by omega) (pi_to hp))) ?_
            refine mn_ifB_eq (tgt := 81) dX12_ligature_74 (by decide) (fun c74 => ?_) (fun c74 => ?_)
            · refine mm_iconst (v := nI 0) dX12_ligature_81 (by decide) ?_
              refine mn_top (u := .int (nI (Bool.toNat (lgPb x (k + 1))))) (congrArg Value.int (by rw [p1, c54, decide_eq_false hp]; rfl)) ?_
              refine mm_istore (L' := [(6, .int (nI (Bool.toNat (lgPb x (k + 1))))), (8, .int (nI (k))), (7, .int (nI (Bool.toNat (lgDb x k)))), (0, .ref (o)), (1, .int (nI (n))), (2, .int (nI (sh))), (3, .int (nI (m))), (4, .long (x))]) dX12_ligature_82 (by decide) rfl ?_
              refine mn_sub [1, 2, 0, 3, 4, 5, 6, 7] rfl ?_
              exact j84
            · cases c74
  refine mm_aload_n dX12_ligature_0 rfl 0 rfl ?_
  refine mm_iload_n dX12_ligature_1 rfl 1 rfl ?_
  refine rm_callVr (As := [.int (nI (n))]) (rest := []) (d2 := 1) dX12_ligature_2 ha zc_isVoice zc_isVoice_s rfl rfl rfl (Nat.le_of_ble_eq_true rfl) (Nat.le_of_ble_eq_true rfl) (by decide) (tM_isVoice ha hW hI (nI_inb hn (by have := hW.1.1; omega))) ?_
  refine mn_ifB_eq (tgt := 34) dX12_ligature_5 (by decide) (fun c5 => ?_) (fun c5 => ?_)
  · cases c5
  · refine mm_iload_n dX12_ligature_8 rfl 2 rfl ?_
    refine mm_i2l dX12_ligature_9 ?_
    refine mm_lconst (v := lN 0) dX12_ligature_10 (by decide) ?_
    refine mm_ldc2 (v := (15)) dX12_ligature_11 zk_123 ?_
    refine mn_top (u := .long (lN (15))) (congrArg Value.long (by decide)) ?_
    refine rm_callSr (As := [.long ((nI (sh)).toInt64), .long (lN (0)), .long (lN (15))]) (rest := []) (d2 := 0) dX12_ligature_14 zc_isIn rfl rfl (Nat.le_of_ble_eq_true rfl) (Nat.le_of_ble_eq_true rfl) (by decide) (tm_isIn _ _ _) ?_
    refine mn_top (u := .int (nI (Bool.toNat (true)))) (congrArg Value.int (in_t (a := 0) (b := 15) (by decide) (by decide) (by omega) (by omega) ((nI_inb hsh (by decide)).imp id (fun z => by omega)))) ?_
    refine mn_ifB_eq (tgt := 34) dX12_ligature_17 (by decide) (fun c17 => ?_) (fun c17 => ?_)
    · cases c17
    · refine mm_iload_n dX12_ligature_20 rfl 3 rfl ?_
      refine mm_i2l dX12_ligature_21 ?_
      refine mm_ldc2 (v := (2)) dX12_ligature_22 zk_143 ?_
      refine mn_top (u := .long (lN (2))) (congrArg Value.long (by decide)) ?_
      refine mm_ldc2 (v := (8)) dX12_ligature_25 zk_145 ?_
      refine mn_top (u := .long (lN (8))) (congrArg Value.long (by decide)) ?_
      refine rm_callSr (As := [.long ((nI (m)).toInt64), .long (lN (2)), .long (lN (8))]) (rest := []) (d2 := 0) dX12_ligature_28 zc_isIn rfl rfl (Nat.le_of_ble_eq_true rfl) (Nat.le_of_ble_eq_true rfl) (by decide) (tm_isIn _ _ _) ?_
      refine mn_top (u := .int (nI (Bool.toNat (true)))) (congrArg Value.int (in_t (a := 2) (b := 8) (by decide) (by decide) (by omega) (by omega) (by rw [nI_toInt (by omega)]; omega))) ?_
      refine mn_ifB_ne (tgt := 37) dX12_ligature_31 (by decide) (fun c31 => ?_) (fun c31 => ?_)
      · refine mm_iconst (v := nI 1) dX12_ligature_37 (by decide) ?_
        refine mm_istore (L' := [(6, .int (nI (1))), (0, .ref (o)), (1, .int (nI (n))), (2, .int (nI (sh))), (3, .int (nI (m))), (4, .long (x))]) dX12_ligature_38 (by decide) rfl ?_
        refine mm_iconst (v := nI 1) dX12_ligature_40 (by decide) ?_
        refine mm_istore (L' := [(7, .int (nI (1))), (6, .int (nI (1))), (0, .ref (o)), (1, .int (nI (n))), (2, .int (nI (sh))), (3, .int (nI (m))), (4, .long (x))]) dX12_ligature_41 (by decide) rfl ?_
        refine mm_iconst (v := nI 0) dX12_ligature_43 (by decide) ?_
        refine mm_istore (L' := [(8, .int (nI (0))), (7, .int (nI (1))), (6, .int (nI (1))), (0, .ref (o)), (1, .int (nI (n))), (2, .int (nI (sh))), (3, .int (nI (m))), (4, .long (x))]) dX12_ligature_44 (by decide) rfl ?_
        refine mn_sub [0, 1, 2, 3, 4, 5, 6, 7] rfl ?_
        exact lp0 m 0 (by omega)
      · cases c31
