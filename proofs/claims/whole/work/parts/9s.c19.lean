/-! Reader: a voice is read; a reading is made again -/
set_option maxRecDepth 100000 in
set_option maxHeartbeats 4000000 in
theorem cj_nlz {l : Launch} {D : va_G} {aa : Nat → ClassId} {b0 : Nat} {h : mm_H} {n : Nat} (h1 : 1 ≤ n) (h2 : n < 2 ^ 31) : mm_V (zz_K l D aa b0) 0 yJ6_numberOfLeadingZeros_0f7a4 cJ6_numberOfLeadingZeros_0f7a4 2 (some .int) 0 [(0, .int (nI (n)))] [] h 0 0 (fun rv h' => h' = h ∧ rv = some (.int (nI (31 - n.log2)))) := by
  refine mm_iload_n dJ6_numberOfLeadingZeros_0f7a4_0 rfl 0 rfl ?_
  refine mn_if_gt (tgt := 15) dJ6_numberOfLeadingZeros_0f7a4_1 (by decide) (by omega) (fun c1 => ?_) (fun c1 => ?_)
  · refine mm_bipush (v := nI 31) dJ6_numberOfLeadingZeros_0f7a4_15 (by decide) ?_
    refine mm_istore_n (L' := [(1, .int (nI (31))), (0, .int (nI (n)))]) dJ6_numberOfLeadingZeros_0f7a4_17 rfl (by decide) rfl ?_
    refine mm_iload_n dJ6_numberOfLeadingZeros_0f7a4_18 rfl 1 rfl ?_
    refine mm_ldcw (v := nI 65536) dJ6_numberOfLeadingZeros_0f7a4_19 zk_J6_264 ?_
    refine mn_icmp_lt (tgt := 33) dJ6_numberOfLeadingZeros_0f7a4_22 (by decide) (by omega) (by omega) (fun c22 => ?_) (fun c22 => ?_)
    · refine mm_iload_n dJ6_numberOfLeadingZeros_0f7a4_33 rfl 1 rfl ?_
      refine mm_sipush (v := nI 256) dJ6_numberOfLeadingZeros_0f7a4_34 (by decide) ?_
      refine mn_icmp_lt (tgt := 48) dJ6_numberOfLeadingZeros_0f7a4_37 (by decide) (by omega) (by omega) (fun c37 => ?_) (fun c37 => ?_)
      · refine mm_iload_n dJ6_numberOfLeadingZeros_0f7a4_48 rfl 1 rfl ?_
        refine mm_bipush (v := nI 16) dJ6_numberOfLeadingZeros_0f7a4_49 (by decide) ?_
        refine mn_icmp_lt (tgt := 61) dJ6_numberOfLeadingZeros_0f7a4_51 (by decide) (by omega) (by omega) (fun c51 => ?_) (fun c51 => ?_)
        · refine mm_iload_n dJ6_numberOfLeadingZeros_0f7a4_61 rfl 1 rfl ?_
          refine mm_iconst (v := nI 4) dJ6_numberOfLeadingZeros_0f7a4_62 (by decide) ?_
          refine mn_icmp_lt (tgt := 73) dJ6_numberOfLeadingZeros_0f7a4_63 (by decide) (by omega) (by omega) (fun c63 => ?_) (fun c63 => ?_)
          · refine mm_iload_n dJ6_numberOfLeadingZeros_0f7a4_73 rfl 0 rfl ?_
            refine mm_iload_n dJ6_numberOfLeadingZeros_0f7a4_74 rfl 1 rfl ?_
            refine mm_iconst (v := nI 1) dJ6_numberOfLeadingZeros_0f7a4_75 (by decide) ?_
            refine mn_iushr dJ6_numberOfLeadingZeros_0f7a4_76 (by omega) (by decide) ?_
            refine mn_top (u := .int (nI ((n) / 2))) (congrArg Value.int (rfl)) ?_
            refine mn_isub dJ6_numberOfLeadingZeros_0f7a4_77 (by omega) ?_
            have e : (31) - ((n) / 2) = 31 - n.log2 := by
              have h2 : (n) / 2 = 0 ∨ (n) / 2 = 1 := by omega
              rcases h2 with h2 | h2
              · have := lg_at (n := n) (k := 0) (by omega) (by omega); omega
              · have := lg_at (n := n) (k := 1) (by omega) (by omega); omega
            exact mm_iret dJ6_numberOfLeadingZeros_0f7a4_78 rfl (⟨rfl, by rw [e]⟩)
          · refine mm_iinc (v := nI 29) (L' := [(1, .int (nI (29))), (0, .int (nI (n)))]) dJ6_numberOfLeadingZeros_0f7a4_66 0 rfl (by decide) (by decide) rfl ?_
            refine mm_iload_n dJ6_numberOfLeadingZeros_0f7a4_69 rfl 1 rfl ?_
            refine mm_iconst (v := nI 2) dJ6_numberOfLeadingZeros_0f7a4_70 (by decide) ?_
            refine mn_iushr dJ6_numberOfLeadingZeros_0f7a4_71 (by omega) (by decide) ?_
            refine mn_top (u := .int (nI ((n) / 4))) (congrArg Value.int (rfl)) ?_
            refine mm_istore_n (L' := [(0, .int (nI ((n) / 4))), (1, .int (nI (29)))]) dJ6_numberOfLeadingZeros_0f7a4_72 rfl (by decide) rfl ?_
            refine mm_iload_n dJ6_numberOfLeadingZeros_0f7a4_73 rfl 1 rfl ?_
            refine mm_iload_n dJ6_numberOfLeadingZeros_0f7a4_74 rfl 0 rfl ?_
            refine mm_iconst (v := nI 1) dJ6_numberOfLeadingZeros_0f7a4_75 (by decide) ?_
            refine mn_iushr dJ6_numberOfLeadingZeros_0f7a4_76 (by omega) (by decide) ?_
            refine mn_top (u := .int (nI (((n) / 4) / 2))) (congrArg Value.int (rfl)) ?_
            refine mn_isub dJ6_numberOfLeadingZeros_0f7a4_77 (by omega) ?_
            have e : (29) - (((n) / 4) / 2) = 31 - n.log2 := by
              have h2 : ((n) / 4) / 2 = 0 ∨ ((n) / 4) / 2 = 1 := by omega
              rcases h2 with h2 | h2
              · have := lg_at (n := n) (k := 2) (by omega) (by omega); omega
              · have := lg_at (n := n) (k := 3) (by omega) (by omega); omega
            exact mm_iret dJ6_numberOfLeadingZeros_0f7a4_78 rfl (⟨rfl, by rw [e]⟩)
        · refine mm_iinc (v := nI 27) (L' := [(1, .int (nI (27))), (0, .int (nI (n)))]) dJ6_numberOfLeadingZeros_0f7a4_54 0 rfl (by decide) (by decide) rfl ?_
          refine mm_iload_n dJ6_numberOfLeadingZeros_0f7a4_57 rfl 1 rfl ?_
          refine mm_iconst (v := nI 4) dJ6_numberOfLeadingZeros_0f7a4_58 (by decide) ?_
          refine mn_iushr dJ6_numberOfLeadingZeros_0f7a4_59 (by omega) (by decide) ?_
          refine mn_top (u := .int (nI ((n) / 16))) (congrArg Value.int (rfl)) ?_
          refine mm_istore_n (L' := [(0, .int (nI ((n) / 16))), (1, .int (nI (27)))]) dJ6_numberOfLeadingZeros_0f7a4_60 rfl (by decide) rfl ?_
          refine mm_iload_n dJ6_numberOfLeadingZeros_0f7a4_61 rfl 0 rfl ?_
          refine mm_iconst (v := nI 4) dJ6_numberOfLeadingZeros_0f7a4_62 (by decide) ?_
          refine mn_icmp_lt (tgt := 73) dJ6_numberOfLeadingZeros_0f7a4_63 (by decide) (by omega) (by omega) (fun c63 => ?_) (fun c63 => ?_)
          · refine mm_iload_n dJ6_numberOfLeadingZeros_0f7a4_73 rfl 1 rfl ?_
            refine mm_iload_n dJ6_numberOfLeadingZeros_0f7a4_74 rfl 0 rfl ?_
            refine mm_iconst (v := nI 1) dJ6_numberOfLeadingZeros_0f7a4_75 (by decide) ?_
            refine mn_iushr dJ6_numberOfLeadingZeros_0f7a4_76 (by omega) (by decide) ?_
            refine mn_top (u := .int (nI (((n) / 16) / 2))) (congrArg Value.int (rfl)) ?_
            refine mn_isub dJ6_numberOfLeadingZeros_0f7a4_77 (by omega) ?_
            have e : (27) - (((n) / 16) / 2) = 31 - n.log2 := by
              have h2 : ((n) / 16) / 2 = 0 ∨ ((n) / 16) / 2 = 1 := by omega
              rcases h2 with h2 | h2
              · have := lg_at (n := n) (k := 4) (by omega) (by omega); omega
              · have := lg_at (n := n) (k := 5) (by omega) (by omega); omega
            exact mm_iret dJ6_numberOfLeadingZeros_0f7a4_78 rfl (⟨rfl, by rw [e]⟩)
          · refine mm_iinc (v := nI 25) (L' := [(1, .int (nI (25))), (0, .int (nI ((n) / 16)))]) dJ6_numberOfLeadingZeros_0f7a4_66 1 rfl (by decide) (by decide) rfl ?_
            refine mm_iload_n dJ6_numberOfLeadingZeros_0f7a4_69 rfl 1 rfl ?_
            refine mm_iconst (v := nI 2) dJ6_numberOfLeadingZeros_0f7a4_70 (by decide) ?_
            refine mn_iushr dJ6_numberOfLeadingZeros_0f7a4_71 (by omega) (by decide) ?_
            refine mn_top (u := .int (nI (((n) / 16) / 4))) (congrArg Value.int (rfl)) ?_
            refine mm_istore_n (L' := [(0, .int (nI (((n) / 16) / 4))), (1, .int (nI (25)))]) dJ6_numberOfLeadingZeros_0f7a4_72 rfl (by decide) rfl ?_
            refine mm_iload_n dJ6_numberOfLeadingZeros_0f7a4_73 rfl 1 rfl ?_
            refine mm_iload_n dJ6_numberOfLeadingZeros_0f7a4_74 rfl 0 rfl ?_
            refine mm_iconst (v := nI 1) dJ6_numberOfLeadingZeros_0f7a4_75 (by decide) ?_
            refine mn_iushr dJ6_numberOfLeadingZeros_0f7a4_76 (by omega) (by decide) ?_
            refine mn_top (u := .int (nI ((((n) / 16) / 4) / 2))) (congrArg Value.int (rfl)) ?_
            refine mn_isub dJ6_numberOfLeadingZeros_0f7a4_77 (by omega) ?_
            have e : (25) - ((((n) / 16) / 4) / 2) = 31 - n.log2 := by
              have h2 : (((n) / 16) / 4) / 2 = 0 ∨ (((n) / 16) / 4) / 2 = 1 := by omega
              rcases h2 with h2 | h2
              · have := lg_at (n := n) (k := 6) (by omega) (by omega); omega
              · have := lg_at (n := n) (k := 7) (by omega) (by omega); omega
            exact mm_iret dJ6_numberOfLeadingZeros_0f7a4_78 rfl (⟨rfl, by rw [e]⟩)
      · refine mm_iinc (v := nI 23) (L' := [(1, .int (nI (23))), (0, .int (nI (n)))]) dJ6_numberOfLeadingZeros_0f7a4_40 0 rfl (by decide) (by decide) rfl ?_
        refine mm_iload_n dJ6_numberOfLeadingZeros_0f7a4_43 rfl 1 rfl ?_
        refine mm_bipush (v := nI 8) dJ6_numberOfLeadingZeros_0f7a4_44 (by decide) ?_
        refine mn_iushr dJ6_numberOfLeadingZeros_0f7a4_46 (by omega) (by decide) ?_
        refine mn_top (u := .int (nI ((n) / 256))) (congrArg Value.int (rfl)) ?_
        refine mm_istore_n (L' := [(0, .int (nI ((n) / 256))), (1, .int (nI (23)))]) dJ6_numberOfLeadingZeros_0f7a4_47 rfl (by decide) rfl ?_
        refine mm_iload_n dJ6_numberOfLeadingZeros_0f7a4_48 rfl 0 rfl ?_
        refine mm_bipush (v := nI 16) dJ6_numberOfLeadingZeros_0f7a4_49 (by decide) ?_
        refine mn_icmp_lt (tgt := 61) dJ6_numberOfLeadingZeros_0f7a4_51 (by decide) (by omega) (by omega) (fun c51 => ?_) (fun c51 => ?_)
        · refine mm_iload_n dJ6_numberOfLeadingZeros_0f7a4_61 rfl 0 rfl ?_
          refine mm_iconst (v := nI 4) dJ6_numberOfLeadingZeros_0f7a4_62 (by decide) ?_
          refine mn_icmp_lt (tgt := 73) dJ6_numberOfLeadingZeros_0f7a4_63 (by decide) (by omega) (by omega) (fun c63 => ?_) (fun c63 => ?_)
          · refine mm_iload_n dJ6_numberOfLeadingZeros_0f7a4_73 rfl 1 rfl ?_
            refine mm_iload_n dJ6_numberOfLeadingZeros_0f7a4_74 rfl 0 rfl ?_
            refine mm_iconst (v := nI 1) dJ6_numberOfLeadingZeros_0f7a4_75 (by decide) ?_
            refine mn_iushr dJ6_numberOfLeadingZeros_0f7a4_76 (by omega) (by decide) ?_
            refine mn_top (u := .int (nI (((n) / 256) / 2))) (congrArg Value.int (rfl)) ?_
            refine mn_isub dJ6_numberOfLeadingZeros_0f7a4_77 (by omega) ?_
            have e : (23) - (((n) / 256) / 2) = 31 - n.log2 := by
              have h2 : ((n) / 256) / 2 = 0 ∨ ((n) / 256) / 2 = 1 := by omega
              rcases h2 with h2 | h2
              · have := lg_at (n := n) (k := 8) (by omega) (by omega); omega
              · have := lg_at (n := n) (k := 9) (by omega) (by omega); omega
            exact mm_iret dJ6_numberOfLeadingZeros_0f7a4_78 rfl (⟨rfl, by rw [e]⟩)
          · refine mm_iinc (v := nI 21) (L' := [(1, .int (nI (21))), (0, .int (nI ((n) / 256)))]) dJ6_numberOfLeadingZeros_0f7a4_66 1 rfl (by decide) (by decide) rfl ?_
            refine mm_iload_n dJ6_numberOfLeadingZeros_0f7a4_69 rfl 1 rfl ?_
            refine mm_iconst (v := nI 2) dJ6_numberOfLeadingZeros_0f7a4_70 (by decide) ?_
            refine mn_iushr dJ6_numberOfLeadingZeros_0f7a4_71 (by omega) (by decide) ?_
            refine mn_top (u := .int (nI (((n) / 256) / 4))) (congrArg Value.int (rfl)) ?_
            refine mm_istore_n (L' := [(0, .int (nI (((n) / 256) / 4))), (1, .int (nI (21)))]) dJ6_numberOfLeadingZeros_0f7a4_72 rfl (by decide) rfl ?_
            refine mm_iload_n dJ6_numberOfLeadingZeros_0f7a4_73 rfl 1 rfl ?_
            refine mm_iload_n dJ6_numberOfLeadingZeros_0f7a4_74 rfl 0 rfl ?_
            refine mm_iconst (v := nI 1) dJ6_numberOfLeadingZeros_0f7a4_75 (by decide) ?_
            refine mn_iushr dJ6_numberOfLeadingZeros_0f7a4_76 (by omega) (by decide) ?_
            refine mn_top (u := .int (nI ((((n) / 256) / 4) / 2))) (congrArg Value.int (rfl)) ?_
            refine mn_isub dJ6_numberOfLeadingZeros_0f7a4_77 (by omega) ?_
            have e : (21) - ((((n) / 256) / 4) / 2) = 31 - n.log2 := by
              have h2 : (((n) / 256) / 4) / 2 = 0 ∨ (((n) / 256) / 4) / 2 = 1 := by omega
              rcases h2 with h2 | h2
              · have := lg_at (n := n) (k := 10) (by omega) (by omega); omega
              · have := lg_at (n := n) (k := 11) (by omega) (by omega); omega
            exact mm_iret dJ6_numberOfLeadingZeros_0f7a4_78 rfl (⟨rfl, by rw [e]⟩)
        · refine mm_iinc (v := nI 19) (L' := [(1, .int (nI (19))), (0, .int (nI ((n) / 256)))]) dJ6_numberOfLeadingZeros_0f7a4_54 1 rfl (by decide) (by decide) rfl ?_
          refine mm_iload_n dJ6_numberOfLeadingZeros_0f7a4_57 rfl 1 rfl ?_
          refine mm_iconst (v := nI 4) dJ6_numberOfLeadingZeros_0f7a4_58 (by decide) ?_
          refine mn_iushr dJ6_numberOfLeadingZeros_0f7a4_59 (by omega) (by decide) ?_
          refine mn_top (u := .int (nI (((n) / 256) / 16))) (congrArg Value.int (rfl)) ?_
          refine mm_istore_n (L' := [(0, .int (nI (((n) / 256) / 16))), (1, .int (nI (19)))]) dJ6_numberOfLeadingZeros_0f7a4_60 rfl (by decide) rfl ?_
          refine mm_iload_n dJ6_numberOfLeadingZeros_0f7a4_61 rfl 0 rfl ?_
          refine mm_iconst (v := nI 4) dJ6_numberOfLeadingZeros_0f7a4_62 (by decide) ?_
          refine mn_icmp_lt (tgt := 73) dJ6_numberOfLeadingZeros_0f7a4_63 (by decide) (by omega) (by omega) (fun c63 => ?_) (fun c63 => ?_)
          · refine mm_iload_n dJ6_numberOfLeadingZeros_0f7a4_73 rfl 1 rfl ?_
            refine mm_iload_n dJ6_numberOfLeadingZeros_0f7a4_74 rfl 0 rfl ?_
            refine mm_iconst (v := nI 1) dJ6_numberOfLeadingZeros_0f7a4_75 (by decide) ?_
            refine mn_iushr dJ6_numberOfLeadingZeros_0f7a4_76 (by omega) (by decide) ?_
            refine mn_top (u := .int (nI ((((n) / 256) / 16) / 2))) (congrArg Value.int (rfl)) ?_
            refine mn_isub dJ6_numberOfLeadingZeros_0f7a4_77 (by omega) ?_
            have e : (19) - ((((n) / 256) / 16) / 2) = 31 - n.log2 := by
              have h2 : (((n) / 256) / 16) / 2 = 0 ∨ (((n) / 256) / 16) / 2 = 1 := by omega
              rcases h2 with h2 | h2
              · have := lg_at (n := n) (k := 12) (by omega) (by omega); omega
              · have := lg_at (n := n) (k := 13) (by omega) (by omega); omega
            exact mm_iret dJ6_numberOfLeadingZeros_0f7a4_78 rfl (⟨rfl, by rw [e]⟩)
          · refine mm_iinc (v := nI 17) (L' := [(1, .int (nI (17))), (0, .int (nI (((n) / 256) / 16)))]) dJ6_numberOfLeadingZeros_0f7a4_66 1 rfl (by decide) (by decide) rfl ?_
            refine mm_iload_n dJ6_numberOfLeadingZeros_0f7a4_69 rfl 1 rfl ?_
            refine mm_iconst (v := nI 2) dJ6_numberOfLeadingZeros_0f7a4_70 (by decide) ?_
            refine mn_iushr dJ6_numberOfLeadingZeros_0f7a4_71 (by omega) (by decide) ?_
            refine mn_top (u := .int (nI ((((n) / 256) / 16) / 4))) (congrArg Value.int (rfl)) ?_
            refine mm_istore_n (L' := [(0, .int (nI ((((n) / 256) / 16) / 4))), (1, .int (nI (17)))]) dJ6_numberOfLeadingZeros_0f7a4_72 rfl (by decide) rfl ?_
            refine mm_iload_n dJ6_numberOfLeadingZeros_0f7a4_73 rfl 1 rfl ?_
            refine mm_iload_n dJ6_numberOfLeadingZeros_0f7a4_74 rfl 0 rfl ?_
            refine mm_iconst (v := nI 1) dJ6_numberOfLeadingZeros_0f7a4_75 (by decide) ?_
            refine mn_iushr dJ6_numberOfLeadingZeros_0f7a4_76 (by omega) (by decide) ?_
            refine mn_top (u := .int (nI (((((n) / 256) / 16) / 4) / 2))) (congrArg Value.int (rfl)) ?_
            refine mn_isub dJ6_numberOfLeadingZeros_0f7a4_77 (by omega) ?_
            have e : (17) - (((((n) / 256) / 16) / 4) / 2) = 31 - n.log2 := by
              have h2 : ((((n) / 256) / 16) / 4) / 2 = 0 ∨ ((((n) / 256) / 16) / 4) / 2 = 1 := by omega
              rcases h2 with h2 | h2
              · have := lg_at (n := n) (k := 14) (by omega) (by omega); omega
              · have := lg_at (n := n) (k := 15) (by omega) (by omega); omega
            exact mm_iret dJ6_numberOfLeadingZeros_0f7a4_78 rfl (⟨rfl, by rw [e]⟩)
    · refine mm_iinc (v := nI 15) (L' := [(1, .int (nI (15))), (0, .int (nI (n)))]) dJ6_numberOfLeadingZeros_0f7a4_25 0 rfl (by decide) (by decide) rfl ?_
      refine mm_iload_n dJ6_numberOfLeadingZeros_0f7a4_28 rfl 1 rfl ?_
      refine mm_bipush (v := nI 16) dJ6_numberOfLeadingZeros_0f7a4_29 (by decide) ?_
      refine mn_iushr dJ6_numberOfLeadingZeros_0f7a4_31 (by omega) (by decide) ?_
      refine mn_top (u := .int (nI ((n) / 65536))) (congrArg Value.int (rfl)) ?_
      refine mm_istore_n (L' := [(0, .int (nI ((n) / 65536))), (1, .int (nI (15)))]) dJ6_numberOfLeadingZeros_0f7a4_32 rfl (by decide) rfl ?_
      refine mm_iload_n dJ6_numberOfLeadingZeros_0f7a4_33 rfl 0 rfl ?_
      refine mm_sipush (v := nI 256) dJ6_numberOfLeadingZeros_0f7a4_34 (by decide) ?_
      refine mn_icmp_lt (tgt := 48) dJ6_numberOfLeadingZeros_0f7a4_37 (by decide) (by omega) (by omega) (fun c37 => ?_) (fun c37 => ?_)
      · refine mm_iload_n dJ6_numberOfLeadingZeros_0f7a4_48 rfl 0 rfl ?_
        refine mm_bipush (v := nI 16) dJ6_numberOfLeadingZeros_0f7a4_49 (by decide) ?_
        refine mn_icmp_lt (tgt := 61) dJ6_numberOfLeadingZeros_0f7a4_51 (by decide) (by omega) (by omega) (fun c51 => ?_) (fun c51 => ?_)
        · refine mm_iload_n dJ6_numberOfLeadingZeros_0f7a4_61 rfl 0 rfl ?_
          refine mm_iconst (v := nI 4) dJ6_numberOfLeadingZeros_0f7a4_62 (by decide) ?_
          refine mn_icmp_lt (tgt := 73) dJ6_numberOfLeadingZeros_0f7a4_63 (by decide) (by omega) (by omega) (fun c63 => ?_) (fun c63 => ?_)
          · refine mm_iload_n dJ6_numberOfLeadingZeros_0f7a4_73 rfl 1 rfl ?_
            refine mm_iload_n dJ6_numberOfLeadingZeros_0f7a4_74 rfl 0 rfl ?_
            refine mm_iconst (v := nI 1) dJ6_numberOfLeadingZeros_0f7a4_75 (by decide) ?_
            refine mn_iushr dJ6_numberOfLeadingZeros_0f7a4_76 (by omega) (by decide) ?_
            refine mn_top (u := .int (nI (((n) / 65536) / 2))) (congrArg Value.int (rfl)) ?_
            refine mn_isub dJ6_numberOfLeadingZeros_0f7a4_77 (by omega) ?_
            have e : (15) - (((n) / 65536) / 2) = 31 - n.log2 := by
              have h2 : ((n) / 65536) / 2 = 0 ∨ ((n) / 65536) / 2 = 1 := by omega
              rcases h2 with h2 | h2
              · have := lg_at (n := n) (k := 16) (by omega) (by omega); omega
              · have := lg_at (n := n) (k := 17) (by omega) (by omega); omega
            exact mm_iret dJ6_numberOfLeadingZeros_0f7a4_78 rfl (⟨rfl, by rw [e]⟩)
          · refine mm_iinc (v := nI 13) (L' := [(1, .int (nI (13))), (0, .int (nI ((n) / 65536)))]) dJ6_numberOfLeadingZeros_0f7a4_66 1 rfl (by decide) (by decide) rfl ?_
            refine mm_iload_n dJ6_numberOfLeadingZeros_0f7a4_69 rfl 1 rfl ?_
            refine mm_iconst (v := nI 2) dJ6_numberOfLeadingZeros_0f7a4_70 (by decide) ?_
            refine mn_iushr dJ6_numberOfLeadingZeros_0f7a4_71 (by omega) (by decide) ?_
            refine mn_top (u := .int (nI (((n) / 65536) / 4))) (congrArg Value.int (rfl)) ?_
            refine mm_istore_n (L' := [(0, .int (nI (((n) / 65536) / 4))), (1, .int (nI (13)))]) dJ6_numberOfLeadingZeros_0f7a4_72 rfl (by decide) rfl ?_
            refine mm_iload_n dJ6_numberOfLeadingZeros_0f7a4_73 rfl 1 rfl ?_
            refine mm_iload_n dJ6_numberOfLeadingZeros_0f7a4_74 rfl 0 rfl ?_
            refine mm_iconst (v := nI 1) dJ6_numberOfLeadingZeros_0f7a4_75 (by decide) ?_
            refine mn_iushr dJ6_numberOfLeadingZeros_0f7a4_76 (by omega) (by decide) ?_
            refine mn_top (u := .int (nI ((((n) / 65536) / 4) / 2))) (congrArg Value.int (rfl)) ?_
            refine mn_isub dJ6_numberOfLeadingZeros_0f7a4_77 (by omega) ?_
            have e : (13) - ((((n) / 65536) / 4) / 2) = 31 - n.log2 := by
              have h2 : (((n) / 65536) / 4) / 2 = 0 ∨ (((n) / 65536) / 4) / 2 = 1 := by omega
              rcases h2 with h2 | h2
              · have := lg_at (n := n) (k := 18) (by omega) (by omega); omega
              · have := lg_at (n := n) (k := 19) (by omega) (by omega); omega
            exact mm_iret dJ6_numberOfLeadingZeros_0f7a4_78 rfl (⟨rfl, by rw [e]⟩)
        · refine mm_iinc (v := nI 11) (L' := [(1, .int (nI (11))), (0, .int (nI ((n) / 65536)))]) dJ6_numberOfLeadingZeros_0f7a4_54 1 rfl (by decide) (by decide) rfl ?_
          refine mm_iload_n dJ6_numberOfLeadingZeros_0f7a4_57 rfl 1 rfl ?_
          refine mm_iconst (v := nI 4) dJ6_numberOfLeadingZeros_0f7a4_58 (by decide) ?_
          refine mn_iushr dJ6_numberOfLeadingZeros_0f7a4_59 (by omega) (by decide) ?_
          refine mn_top (u := .int (nI (((n) / 65536) / 16))) (congrArg Value.int (rfl)) ?_
          refine mm_istore_n (L' := [(0, .int (nI (((n) / 65536) / 16))), (1, .int (nI (11)))]) dJ6_numberOfLeadingZeros_0f7a4_60 rfl (by decide) rfl ?_
          refine mm_iload_n dJ6_numberOfLeadingZeros_0f7a4_61 rfl 0 rfl ?_
          refine mm_iconst (v := nI 4) dJ6_numberOfLeadingZeros_0f7a4_62 (by decide) ?_
          refine mn_icmp_lt (tgt := 73) dJ6_numberOfLeadingZeros_0f7a4_63 (by decide) (by omega) (by omega) (fun c63 => ?_) (fun c63 => ?_)
          · refine mm_iload_n dJ6_numberOfLeadingZeros_0f7a4_73 rfl 1 rfl ?_
            refine mm_iload_n dJ6_numberOfLeadingZeros_0f7a4_74 rfl 0 rfl ?_
            refine mm_iconst (v := nI 1) dJ6_numberOfLeadingZeros_0f7a4_75 (by decide) ?_
            refine mn_iushr dJ6_numberOfLeadingZeros_0f7a4_76 (by omega) (by decide) ?_
            refine mn_top (u := .int (nI ((((n) / 65536) / 16) / 2))) (congrArg Value.int (rfl)) ?_
            refine mn_isub dJ6_numberOfLeadingZeros_0f7a4_77 (by omega) ?_
            have e : (11) - ((((n) / 65536) / 16) / 2) = 31 - n.log2 := by
              have h2 : (((n) / 65536) / 16) / 2 = 0 ∨ (((n) / 65536) / 16) / 2 = 1 := by omega
              rcases h2 with h2 | h2
              · have := lg_at (n := n) (k := 20) (by omega) (by omega); omega
              · have := lg_at (n := n) (k := 21) (by omega) (by omega); omega
            exact mm_iret dJ6_numberOfLeadingZeros_0f7a4_78 rfl (⟨rfl, by rw [e]⟩)
          · refine mm_iinc (v := nI 9) (L' := [(1, .int (nI (9))), (0, .int (nI (((n) / 65536) / 16)))]) dJ6_numberOfLeadingZeros_0f7a4_66 1 rfl (by decide) (by decide) rfl ?_
            refine mm_iload_n dJ6_numberOfLeadingZeros_0f7a4_69 rfl 1 rfl ?_
            refine mm_iconst (v := nI 2) dJ6_numberOfLeadingZeros_0f7a4_70 (by decide) ?_
            refine mn_iushr dJ6_numberOfLeadingZeros_0f7a4_71 (by omega) (by decide) ?_
            refine mn_top (u := .int (nI ((((n) / 65536) / 16) / 4))) (congrArg Value.int (rfl)) ?_
            refine mm_istore_n (L' := [(0, .int (nI ((((n) / 65536) / 16) / 4))), (1, .int (nI (9)))]) dJ6_numberOfLeadingZeros_0f7a4_72 rfl (by decide) rfl ?_
            refine mm_iload_n dJ6_numberOfLeadingZeros_0f7a4_73 rfl 1 rfl ?_
            refine mm_iload_n dJ6_numberOfLeadingZeros_0f7a4_74 rfl 0 rfl ?_
            refine mm_iconst (v := nI 1) dJ6_numberOfLeadingZeros_0f7a4_75 (by decide) ?_
            refine mn_iushr dJ6_numberOfLeadingZeros_0f7a4_76 (by omega) (by decide) ?_
            refine mn_top (u := .int (nI (((((n) / 65536) / 16) / 4) / 2))) (congrArg Value.int (rfl)) ?_
            refine mn_isub dJ6_numberOfLeadingZeros_0f7a4_77 (by omega) ?_
            have e : (9) - (((((n) / 65536) / 16) / 4) / 2) = 31 - n.log2 := by
              have h2 : ((((n) / 65536) / 16) / 4) / 2 = 0 ∨ ((((n) / 65536) / 16) / 4) / 2 = 1 := by omega
              rcases h2 with h2 | h2
              · have := lg_at (n := n) (k := 22) (by omega) (by omega); omega
              · have := lg_at (n := n) (k := 23) (by omega) (by omega); omega
            exact mm_iret dJ6_numberOfLeadingZeros_0f7a4_78 rfl (⟨rfl, by rw [e]⟩)
      · refine mm_iinc (v := nI 7) (L' := [(1, .int (nI (7))), (0, .int (nI ((n) / 65536)))]) dJ6_numberOfLeadingZeros_0f7a4_40 1 rfl (by decide) (by decide) rfl ?_
        refine mm_iload_n dJ6_numberOfLeadingZeros_0f7a4_43 rfl 1 rfl ?_
        refine mm_bipush (v := nI 8) dJ6_numberOfLeadingZeros_0f7a4_44 (by decide) ?_
        refine mn_iushr dJ6_numberOfLeadingZeros_0f7a4_46 (by omega) (by decide) ?_
        refine mn_top (u := .int (nI (((n) / 65536) / 256))) (congrArg Value.int (rfl)) ?_
        refine mm_istore_n (L' := [(0, .int (nI (((n) / 65536) / 256))), (1, .int (nI (7)))]) dJ6_numberOfLeadingZeros_0f7a4_47 rfl (by decide) rfl ?_
        refine mm_iload_n dJ6_numberOfLeadingZeros_0f7a4_48 rfl 0 rfl ?_
        refine mm_bipush (v := nI 16) dJ6_numberOfLeadingZeros_0f7a4_49 (by decide) ?_
        refine mn_icmp_lt (tgt := 61) dJ6_numberOfLeadingZeros_0f7a4_51 (by decide) (by omega) (by omega) (fun c51 => ?_) (fun c51 => ?_)
        · refine mm_iload_n dJ6_numberOfLeadingZeros_0f7a4_61 rfl 0 rfl ?_
          refine mm_iconst (v := nI 4) dJ6_numberOfLeadingZeros_0f7a4_62 (by decide) ?_
          refine mn_icmp_lt (tgt := 73) dJ6_numberOfLeadingZeros_0f7a4_63 (by decide) (by omega) (by omega) (fun c63 => ?_) (fun c63 => ?_)
          · refine mm_iload_n dJ6_numberOfLeadingZeros_0f7a4_73 rfl 1 rfl ?_
            refine mm_iload_n dJ6_numberOfLeadingZeros_0f7a4_74 rfl 0 rfl ?_
            refine mm_iconst (v := nI 1) dJ6_numberOfLeadingZeros_0f7a4_75 (by decide) ?_
            refine mn_iushr dJ6_numberOfLeadingZeros_0f7a4_76 (by omega) (by decide) ?_
            refine mn_top (u := .int (nI ((((n) / 65536) / 256) / 2))) (congrArg Value.int (rfl)) ?_
            refine mn_isub dJ6_numberOfLeadingZeros_0f7a4_77 (by omega) ?_
            have e : (7) - ((((n) / 65536) / 256) / 2) = 31 - n.log2 := by
              have h2 : (((n) / 65536) / 256) / 2 = 0 ∨ (((n) / 65536) / 256) / 2 = 1 := by omega
              rcases h2 with h2 | h2
              · have := lg_at (n := n) (k := 24) (by omega) (by omega); omega
              · have := lg_at (n := n) (k := 25) (by omega) (by omega); omega
            exact mm_iret dJ6_numberOfLeadingZeros_0f7a4_78 rfl (⟨rfl, by rw [e]⟩)
          · refine mm_iinc (v := nI 5) (L' := [(1, .int (nI (5))), (0, .int (nI (((n) / 65536) / 256)))]) dJ6_numberOfLeadingZeros_0f7a4_66 1 rfl (by decide) (by decide) rfl ?_
            refine mm_iload_n dJ6_numberOfLeadingZeros_0f7a4_69 rfl 1 rfl ?_
            refine mm_iconst (v := nI 2) dJ6_numberOfLeadingZeros_0f7a4_70 (by decide) ?_
            refine mn_iushr dJ6_numberOfLeadingZeros_0f7a4_71 (by omega) (by decide) ?_
            refine mn_top (u := .int (nI ((((n) / 65536) / 256) / 4))) (congrArg Value.int (rfl)) ?_
            refine mm_istore_n (L' := [(0, .int (nI ((((n) / 65536) / 256) / 4))), (1, .int (nI (5)))]) dJ6_numberOfLeadingZeros_0f7a4_72 rfl (by decide) rfl ?_
            refine mm_iload_n dJ6_numberOfLeadingZeros_0f7a4_73 rfl 1 rfl ?_
            refine mm_iload_n dJ6_numberOfLeadingZeros_0f7a4_74 rfl 0 rfl ?_
            refine mm_iconst (v := nI 1) dJ6_numberOfLeadingZeros_0f7a4_75 (by decide) ?_
            refine mn_iushr dJ6_numberOfLeadingZeros_0f7a4_76 (by omega) (by decide) ?_
            refine mn_top (u := .int (nI (((((n) / 65536) / 256) / 4) / 2))) (congrArg Value.int (rfl)) ?_
            refine mn_isub dJ6_numberOfLeadingZeros_0f7a4_77 (by omega) ?_
            have e : (5) - (((((n) / 65536) / 256) / 4) / 2) = 31 - n.log2 := by
              have h2 : ((((n) / 65536) / 256) / 4) / 2 = 0 ∨ ((((n) / 65536) / 256) / 4) / 2 = 1 := by omega
              rcases h2 with h2 | h2
              · have := lg_at (n := n) (k := 26) (by omega) (by omega); omega
              · have := lg_at (n := n) (k := 27) (by omega) (by omega); omega
            exact mm_iret dJ6_numberOfLeadingZeros_0f7a4_78 rfl (⟨rfl, by rw [e]⟩)
        · refine mm_iinc (v := nI 3) (L' := [(1, .int (nI (3))), (0, .int (nI (((n) / 65536) / 256)))]) dJ6_numberOfLeadingZeros_0f7a4_54 1 rfl (by decide) (by decide) rfl ?_
          refine mm_iload_n dJ6_numberOfLeadingZeros_0f7a4_57 rfl 1 rfl ?_
          refine mm_iconst (v := nI 4) dJ6_numberOfLeadingZeros_0f7a4_58 (by decide) ?_
          refine mn_iushr dJ6_numberOfLeadingZeros_0f7a4_59 (by omega) (by decide) ?_
          refine mn_top (u := .int (nI ((((n) / 65536) / 256) / 16))) (congrArg Value.int (rfl)) ?_
          refine mm_istore_n (L' := [(0, .int (nI ((((n) / 65536) / 256) / 16))), (1, .int (nI (3)))]) dJ6_numberOfLeadingZeros_0f7a4_60 rfl (by decide) rfl ?_
          refine mm_iload_n dJ6_numberOfLeadingZeros_0f7a4_61 rfl 0 rfl ?_
          refine mm_iconst (v := nI 4) dJ6_numberOfLeadingZeros_0f7a4_62 (by decide) ?_
          refine mn_icmp_lt (tgt := 73) dJ6_numberOfLeadingZeros_0f7a4_63 (by decide) (by omega) (by omega) (fun c63 => ?_) (fun c63 => ?_)
          · refine mm_iload_n dJ6_numberOfLeadingZeros_0f7a4_73 rfl 1 rfl ?_
            refine mm_iload_n dJ6_numberOfLeadingZeros_0f7a4_74 rfl 0 rfl ?_
            refine mm_iconst (v := nI 1) dJ6_numberOfLeadingZeros_0f7a4_75 (by decide) ?_
            refine mn_iushr dJ6_numberOfLeadingZeros_0f7a4_76 (by omega) (by decide) ?_
            refine mn_top (u := .int (nI (((((n) / 65536) / 256) / 16) / 2))) (congrArg Value.int (rfl)) ?_
            refine mn_isub dJ6_numberOfLeadingZeros_0f7a4_77 (by omega) ?_
            have e : (3) - (((((n) / 65536) / 256) / 16) / 2) = 31 - n.log2 := by
              have h2 : ((((n) / 65536) / 256) / 16) / 2 = 0 ∨ ((((n) / 65536) / 256) / 16) / 2 = 1 := by omega
              rcases h2 with h2 | h2
              · have := lg_at (n := n) (k := 28) (by omega) (by omega); omega
              · have := lg_at (n := n) (k := 29) (by omega) (by omega); omega
            exact mm_iret dJ6_numberOfLeadingZeros_0f7a4_78 rfl (⟨rfl, by rw [e]⟩)
          · refine mm_iinc (v := nI 1) (L' := [(1, .int (nI (1))), (0, .int (nI ((((n) / 65536) / 256) / 16)))]) dJ6_numberOfLeadingZeros_0f7a4_66 1 rfl (by decide) (by decide) rfl ?_
            refine mm_iload_n dJ6_numberOfLeadingZeros_0f7a4_69 rfl 1 rfl ?_
            refine mm_iconst (v := nI 2) dJ6_numberOfLeadingZeros_0f7a4_70 (by decide) ?_
            refine mn_iushr dJ6_numberOfLeadingZeros_0f7a4_71 (by omega) (by decide) ?_
            refine mn_top (u := .int (nI (((((n) / 65536) / 256) / 16) / 4))) (congrArg Value.int (rfl)) ?_
            refine mm_istore_n (L' := [(0, .int (nI (((((n) / 65536) / 256) / 16) / 4))), (1, .int (nI (1)))]) dJ6_numberOfLeadingZeros_0f7a4_72 rfl (by decide) rfl ?_
            refine mm_iload_n dJ6_numberOfLeadingZeros_0f7a4_73 rfl 1 rfl ?_
            refine mm_iload_n dJ6_numberOfLeadingZeros_0f7a4_74 rfl 0 rfl ?_
            refine mm_iconst (v := nI 1) dJ6_numberOfLeadingZeros_0f7a4_75 (by decide) ?_
            refine mn_iushr dJ6_numberOfLeadingZeros_0f7a4_76 (by omega) (by decide) ?_
            refine mn_top (u := .int (nI ((((((n) / 65536) / 256) / 16) / 4) / 2))) (congrArg Value.int (rfl)) ?_
            refine mn_isub dJ6_numberOfLeadingZeros_0f7a4_77 (by omega) ?_
            have e : (1) - ((((((n) / 65536) / 256) / 16) / 4) / 2) = 31 - n.log2 := by
              have h2 : (((((n) / 65536) / 256) / 16) / 4) / 2 = 0 ∨ (((((n) / 65536) / 256) / 16) / 4) / 2 = 1 := by omega
              rcases h2 with h2 | h2
              · have := lg_at (n := n) (k := 30) (by omega) (by omega); omega
              · have := lg_at (n := n) (k := 31) (by omega) (by omega); omega
            exact mm_iret dJ6_numberOfLeadingZeros_0f7a4_78 rfl (⟨rfl, by rw [e]⟩)
  · omega
theorem rb_pack {o : Nat} {X : Nat → Nat → Int32} {Y : Nat → Nat → Int64} {rl : Option Nat} {h : mm_H} {w : ro_w} {sg a dt : Nat} {E U P H PL RS CO AL LI : Nat → Nat} (hva : vA a) (hrk : rk_ w sg (gd_ sg)) (hsp : spf_ X w sg (gd_ sg) dt E U P H PL RS CO AL LI) (hw : vw_ X a w) (hs : vs_ X a sg) (ha : cm_at o (xu (xu (xu (xu (pu_ (xu (xu X 3 10 (nI 0)) 4 6 (nI 0)) 0 (nI 0) (nI 0) (nI 0) (nI 0) (nI (tE_ (fun z => ie_ U P z (gd_ sg + 1)) w.1 w.1))) 25 2 (nI 0)) 25 3 (nI 0)) 25 4 (nI 0)) 25 5 (nI 1)) Y rl h) : ∃ X2, cm_at o X2 Y rl h ∧ rq_ X2 w sg a dt E U P H PL RS CO AL LI ∧ dr_ X2 [] [] 1 ∧ X2 3 10 = nI 0 ∧ X2 4 6 = nI 1 ∧ ∀ b i, ¬ (b = 3 ∧ i = 10) → ¬ (b = 4 ∧ i = 6) → ¬ (5 ≤ b ∧ b ≤ 9 ∧ i = 0) → ¬ (b = 25 ∧ 2 ≤ i ∧ i ≤ 5) → X2 b i = X b i := by
  have ex : ∀ b i, ¬ (b = 3 ∧ i = 10) → ¬ (b = 4 ∧ i = 6) → ¬ (5 ≤ b ∧ b ≤ 9 ∧ i = 0) → ¬ (b = 25 ∧ 2 ≤ i ∧ i ≤ 5) → (xu (xu (xu (xu (pu_ (xu (xu X 3 10 (nI 0)) 4 6 (nI 0)) 0 (nI 0) (nI 0) (nI 0) (nI 0) (nI (tE_ (fun z => ie_ U P z (gd_ sg + 1)) w.1 w.1))) 25 2 (nI 0)) 25 3 (nI 0)) 25 4 (nI 0)) 25 5 (nI 1)) b i = X b i := fun b i n1 n2 n3 n4 => by
    unfold pu_
    rw [xu_z (by omega), xu_z (by omega), xu_z (by omega), xu_z (by omega), xu_z (by omega), xu_z (by omega), xu_z (by omega), xu_z (by omega), xu_z (by omega), xu_z (by omega), xu_z (by omega), xu_z (by omega)]
  have hge := vA_ge hva
  have hM : mp_ w sg (gd_ sg) [] (tE_ (fun z => ie_ U P z (gd_ sg + 1)) w.1 w.1) := ⟨Nat.lt_of_lt_of_le (tE_lt hrk.1 _) (by decide), tE_mb (fun p hp => ie_mb hsp.2.2.1 hrk.2.1 hrk.1 hp)⟩
  obtain ⟨s1, s2, s3, s4, s5⟩ := hsp
  refine ⟨_, ha, ⟨⟨sp_x s1 (fun b i z => ex b i (by omega) (by omega) (by omega) (by omega)), s2, s3, (ex _ _ (by omega) (by omega) (by omega) (by omega)).trans s4, (ex _ _ (by omega) (by omega) (by omega) (by omega)).trans s5⟩, ⟨?_, ?_, _, ?_, hM⟩, vw_s hw (fun b i z => ex b i (by omega) (by omega) (by omega) (by omega)), vs_s hs (fun b i z => ex b i (by omega) (by omega) (by omega) (by omega))⟩, ⟨⟨?_, ?_, ?_, ?_⟩, fun i hi => absurd hi (Nat.not_lt_zero _), fun i hi => absurd hi (Nat.not_lt_zero _)⟩, ?_, ?_, ex⟩
  all_goals unfold pu_
  · rw [xu_a (by decide), xu_a (by decide), xu_a (by decide), xu_a (by decide), xu_a (by decide), xu_a (by decide), xu_a (by decide), xu_a (by decide), xu_a (by decide), xu_s]
  · rw [xu_a (by decide), xu_a (by decide), xu_a (by decide), xu_a (by decide), xu_a (by decide), xu_a (by decide), xu_s]
  · rw [xu_a (by decide), xu_a (by decide), xu_a (by decide), xu_a (by decide), xu_a (by decide), xu_s]
  · rw [xu_i (by decide), xu_i (by decide), xu_i (by decide), xu_s]; rfl
  · rw [xu_i (by decide), xu_i (by decide), xu_s]; rfl
  · rw [xu_i (by decide), xu_s]; rfl
  · rw [xu_s]
  · rw [xu_a (by decide), xu_a (by decide), xu_a (by decide), xu_a (by decide), xu_a (by decide), xu_a (by decide), xu_a (by decide), xu_a (by decide), xu_a (by decide), xu_a (by decide), xu_a (by decide), xu_s]
  · rw [xu_a (by decide), xu_a (by decide), xu_a (by decide), xu_a (by decide), xu_s]
theorem spf_x {X X' : Nat → Nat → Int32} {w : ro_w} {sg g dt : Nat} {E U P H PL RS CO AL LI : Nat → Nat} (h : spf_ X w sg g dt E U P H PL RS CO AL LI) (e : ∀ b i, 10 ≤ b → b ≤ 19 → X' b i = X b i) : spf_ X' w sg g dt E U P H PL RS CO AL LI := ⟨sp_x h.1 (fun b i z => e b i (by omega) (by omega)), h.2.1, h.2.2.1, (e _ _ (by decide) (by decide)).trans h.2.2.2.1, (e _ _ (by decide) (by decide)).trans h.2.2.2.2⟩
theorem rem_ini {w : ro_w} {sg : Nat} (hrk : rk_ w sg (gd_ sg)) (h0 : 0 < w.1) : [] ++ rem_ w sg (gd_ sg) [([], [], [], 1, 0, 1)] = Br w sg (gd_ sg) 0 := by
  show (rm_ w sg (gd_ sg) [] 0 0).map (pf_ (cso []) ([], [], [], 1, 0, 1)) ++ [] = _
  have hg : gd_ sg ≤ 6 := by have := hrk.2.1; omega
  rw [List.append_nil, rm_0 hg (fun t ht => by cases ht) (show nn_ w [] 0 from h0)]
  show (Br w sg (gd_ sg) 0).map _ = _
  conv => rhs; rw [← List.map_id (Br w sg (gd_ sg) 0)]
  apply List.map_congr_left
  intro x _
  obtain ⟨cs, ⟨fs, vs⟩, c⟩ := x
  show ([] ++ cs, gc ([], []) (fs, vs), 1 * c) = _
  rw [Nat.one_mul]
  rfl
/-- the arrangement is the sorting -/
theorem ar_srt {X : Nat → Nat → Int32} {w : ro_w} {sg : Nat} (hrk : rk_ w sg (gd_ sg)) (h : ∀ j, j < ((RR (Br w sg (gd_ sg) 0)).map (fun x => sn_ x.2.1.1)).length → X 23 (ps2 ((RR (Br w sg (gd_ sg) 0)).map (fun x => sn_ x.2.1.1)) j) = nI j) : ∀ r, r < (RR (Br w sg (gd_ sg) 0)).length → ∃ j x, X 23 r = nI j ∧ (RR (Br w sg (gd_ sg) 0))[j]? = some x ∧ (sS w sg)[r]? = some x := fun r hr => by
  obtain ⟨j, hj, e⟩ := ps2_ex (ks := (RR (Br w sg (gd_ sg) 0)).map (fun x => sn_ x.2.1.1)) (n := 128) (r := r) (fun x hx => by
    rw [List.mem_map] at hx
    obtain ⟨y, hy, rfl⟩ := hx
    exact (Br_lk hrk (RR_mem hy)).2.2.1) (by rw [List.length_map]; exact hr)
  have h1 := h j hj
  rw [e] at h1
  rw [List.length_map] at hj
  have hx : (RR (Br w sg (gd_ sg) 0))[j]? = some (RR (Br w sg (gd_ sg) 0))[j] := List.getElem?_eq_getElem hj
  refine ⟨j, _, h1, hx, ?_⟩
  have := srt_at (key := fun x : gL => sn_ x.2.1.1) (n := 128) hx (Br_lk hrk (RR_mem (List.getElem_mem hj))).2.2.1
  rw [e] at this
  exact this
set_option maxRecDepth 100000 in
set_option maxHeartbeats 4000000 in
theorem cR_read {l : Launch} {D : va_G} {aa : Nat → ClassId} {b0 : Nat} {h : mm_H} {o : Nat} {X : Nat → Nat → Int32} {Y : Nat → Nat → Int64} {rl : Option Nat} {w : ro_w} {sg a : Nat} {st : Bool} (ha : cm_at o X Y rl h) (hva : vA a) (hw : vw_ X a w) (hs : vs_ X a sg) (hst : X a 8 = nI (Bool.toNat st)) (h7 : st = true → X a 7 = nI 0) (hrk : rk_ w sg (gd_ sg)) (hd0 : ro_dot w 0 = false) : mm_V (zz_K l D aa b0) 4 yX5_read cX5_read 5 none 0 [(0, .ref (o + 3)), (1, .ref (o + a))] [] h 0 0 (fun rv h' => rv = none ∧ ∃ (X' : Nat → Nat → Int32) (Y' : Nat → Nat → Int64), cm_at o X' Y' (some a) h' ∧ cm_fr o h h' ∧ rdx a st X X' ∧ (∀ b i, b ≠ 21 → Y' b i = Y b i) ∧ X' a 8 = nI 0 ∧ (∃ u, X' a 6 = nI u ∧ fu_ w sg u) ∧ (st = true → X' a 7 = nI 0) ∧ ((X' a 5 = nI 1001 ∧ 1000 < (RR (Br w sg (gd_ sg) 0)).length) ∨ (X' a 5 = nI (RR (Br w sg (gd_ sg) 0)).length ∧ kn_ X' Y' w sg a ∧ (st = true → Br w sg (gd_ sg) 0 = [] ∨ ∃ y, bo_ (Br w sg (gd_ sg) 0) = some y ∧ ∀ i, i < w.1 → X' (a + 2) i = nI (y.2.1.2.getD i 0))))) := by
  have hf := cm_fr.rf (o := o) (h := h)
  have hge := vA_ge hva
  have h24 := hrk.1
  refine mm_aload_n dX5_read_0 rfl 0 rfl ?_
  refine cm_getR (b := 4) dX5_read_1 ha zr_X5_14 (by decide) rfl rfl rfl ?_
  refine cm_getR (b := 10) dX5_read_4 ha zr_X5_54 (by decide) rfl rfl rfl ?_
  refine mm_aload_n dX5_read_7 rfl 1 rfl ?_
  refine cm_callV (As := [.ref (o + a)]) (rest := []) (d2 := 3) dX5_read_8 ha (by decide) rfl zz_clX7 zc_X5_58 zs_X7_fill rfl rfl (Nat.le_of_ble_eq_true rfl) (Nat.le_of_ble_eq_true rfl) (by decide) (cs_fill ha hva hw hs) (fun r h1 hq => ?_)
  obtain ⟨rfl, X1, dt, E, U, P, H, PL, RS, CO, AL, LI, ha, hf', hsy, hsp⟩ := hq
  have hf := hf.tr hf'
  have hw1 := vw_s hw (fun b i z => hsy b i (by omega))
  have hs1 := vs_s hs (fun b i z => hsy b i (by omega))
  refine mm_aload_n dX5_read_11 rfl 0 rfl ?_
  refine cm_getR (b := 20) dX5_read_12 ha zr_X5_21 (by decide) rfl rfl rfl ?_
  refine cm_callV (As := []) (rest := []) (d2 := 0) dX5_read_15 ha (by decide) rfl zz_clX3 zc_X5_64 zs_X3_clear rfl rfl (Nat.le_of_ble_eq_true rfl) (Nat.le_of_ble_eq_true rfl) (by decide) (cf_clear ha) (fun r h1 hq => ?_)
  obtain ⟨rfl, ha, hf'⟩ := hq
  have hf := hf.tr hf'
  have hspc : spf_ (xu X1 20 4 (nI 0)) w sg (gd_ sg) dt E U P H PL RS CO AL LI := spf_x hsp (fun b i z1 z2 => xu_a (by omega))
  refine mm_aload_n dX5_read_18 rfl 0 rfl ?_
  refine cm_callV (As := []) (rest := []) (d2 := 2) dX5_read_19 ha (by decide) rfl zz_clX5 zc_X5_67 zs_X5_begin rfl rfl (Nat.le_of_ble_eq_true rfl) (Nat.le_of_ble_eq_true rfl) (by decide) (cR_begin ha hspc.2.2.2.1) (fun r h1 hq => ?_)
  obtain ⟨rfl, ha, hf'⟩ := hq
  have hf := hf.tr hf'
  obtain ⟨X2, ha, hrq, hdr, ht0, hm1, hsm⟩ := rb_pack hva hrk hspc (vw_s hw1 (fun b i z => xu_a (by omega))) (vs_s hs1 (fun b i z => xu_a (by omega))) ha
  have hx2 : ∀ b i, (b < 3 ∨ b = 30 ∨ 34 < b) → X2 b i = X b i := fun b i z => (hsm b i (by omega) (by omega) (by omega) (by omega)).trans ((xu_a (by omega)).trans (hsy b i (by omega)))
  have h204 : X2 20 4 = nI 0 := (hsm 20 4 (by omega) (by omega) (by omega) (by omega)).trans xu_s
  have hw2 := hrq.2.2.1
  have hst2 : X2 a 8 = nI (Bool.toNat st) := (hx2 a 8 (by omega)).trans hst
  have h72 : st = true → X2 a 7 = nI 0 := fun z => (hx2 a 7 (by omega)).trans (h7 z)
  have hrd2 : rdx a st X X2 := fun b i z => hx2 b i (by omega)
  have hfo2 : fo2 X2 Y (RR []) := ⟨h204, Nat.zero_le _, fun i x hx => by cases hx⟩
  have en : ∀ (tv dv : Int32) (X9 : Nat → Nat → Int32) (Y9 : Nat → Nat → Int64) (h9 : mm_H), rE_ X X9 Y9 w sg a dt st E U P H PL RS CO AL LI → (∀ b i, b ≠ 21 → Y9 b i = Y b i) → cm_at o X9 Y9 rl h9 → cm_fr o h h9 → mm_V (zz_K l D aa b0) 4 yX5_read cX5_read 5 none 215 [(3, .int (tv)), (2, .int (dv)), (0, .ref (o + 3)), (1, .ref (o + a))] [] h9 0 0 (fun rv h' => rv = none ∧ ∃ (X' : Nat → Nat → Int32) (Y' : Nat → Nat → Int64), cm_at o X' Y' (some a) h' ∧ cm_fr o h h' ∧ rdx a st X X' ∧ (∀ b i, b ≠ 21 → Y' b i = Y b i) ∧ X' a 8 = nI 0 ∧ (∃ u, X' a 6 = nI u ∧ fu_ w sg u) ∧ (st = true → X' a 7 = nI 0) ∧ ((X' a 5 = nI 1001 ∧ 1000 < (RR (Br w sg (gd_ sg) 0)).length) ∨ (X' a 5 = nI (RR (Br w sg (gd_ sg) 0)).length ∧ kn_ X' Y' w sg a ∧ (st = true → Br w sg (gd_ sg) 0 = [] ∨ ∃ y, bo_ (Br w sg (gd_ sg) 0) = some y ∧ ∀ i, i < w.1 → X' (a + 2) i = nI (y.2.1.2.getD i 0))))) := by
    intro tv dv X9 Y9 h9 hE hY ha hf
    obtain ⟨hrq9, hst9, hrd9, h79, hor⟩ := hE
    have hie : ∀ p, p < w.1 → mb (ie_ U P p (gd_ sg + 1)) (IT w sg (gd_ sg) p) := fun p hp => ie_mb hrq9.1.2.2.1 hrk.2.1 h24 hp
    have hieL : ∀ p, ie_ U P p (gd_ sg + 1) < 2 ^ 27 := fun p => ie_lt (sp_UP hrq9.1.1) _
    have hrl := rh_lt (IE := fun z => ie_ U P z (gd_ sg + 1)) hieL w.1
    have hr1 := rh_ne (IE := fun z => ie_ U P z (gd_ sg + 1)) (n := w.1)
    have hfu : fu_ w sg (31 - (31 - (rh_ (fun z => ie_ U P z (gd_ sg + 1)) w.1).log2)) := by
      have hlg : (rh_ (fun z => ie_ U P z (gd_ sg + 1)) w.1).log2 < 27 := (Nat.log2_lt (by omega)).mpr hrl
      exact ⟨_, hie, hieL, by omega⟩
    generalize hRH : rh_ (fun z => ie_ U P z (gd_ sg + 1)) w.1 = RH at *
    have h1012 : X9 10 12 = nI RH := by rw [← hRH]; exact hrq9.1.2.2.2.2
    rcases hor with ⟨hfo, hbo⟩ | ⟨hmany, hlen⟩
    · refine mm_aload_n dX5_read_215 rfl 2 rfl ?_
      refine cm_getR (b := 20) dX5_read_216 ha zr_X5_21 (by decide) rfl rfl rfl ?_
      have hmm : ∀ i, i < ((RR (Br w sg (gd_ sg) 0)).map (fun x => sn_ x.2.1.1)).length → X9 22 i = nI (((RR (Br w sg (gd_ sg) 0)).map (fun x => sn_ x.2.1.1)).getD i 0) ∧ ((RR (Br w sg (gd_ sg) 0)).map (fun x => sn_ x.2.1.1)).getD i 0 ≤ 127 := fun i hi => by
        rw [List.length_map] at hi
        have hx : (RR (Br w sg (gd_ sg) 0))[i]? = some (RR (Br w sg (gd_ sg) 0))[i] := List.getElem?_eq_getElem hi
        have hg : ((RR (Br w sg (gd_ sg) 0)).map (fun x => sn_ x.2.1.1)).getD i 0 = sn_ (RR (Br w sg (gd_ sg) 0))[i].2.1.1 := by rw [List.getD_eq_getElem?_getD, List.getElem?_map, hx]; rfl
        rw [hg]
        exact ⟨(hfo.2.2 i _ hx).1, by have := (Br_lk hrk (RR_mem (List.getElem_mem hi))).2.2.1; omega⟩
      refine cm_callV (As := []) (rest := []) (d2 := 1) dX5_read_219 ha (by decide) rfl zz_clX3 zc_X5_119 zs_X3_arrange rfl rfl (Nat.le_of_ble_eq_true rfl) (Nat.le_of_ble_eq_true rfl) (by decide) (cf_arrange (ks := (RR (Br w sg (gd_ sg) 0)).map (fun x => sn_ x.2.1.1)) ha (by rw [List.length_map]; exact hfo.1) (by rw [List.length_map]; exact hfo.2.1) (fun i hi => (hmm i hi).1) (fun i hi => (hmm i hi).2)) (fun r h1 hq => ?_)
      obtain ⟨rfl, XA, ha, hf', hxa, hor⟩ := hq
      have hf := hf.tr hf'
      have h1012 : XA 10 12 = nI RH := (hxa 10 12 (by decide) (by decide)).trans h1012
      refine mm_aload_n dX5_read_222 rfl 2 rfl ?_
      refine mm_aload_n dX5_read_223 rfl 3 rfl ?_
      refine cm_putL (v := a) dX5_read_224 ha hf zp_X5_122 rfl rfl rfl rfl (fun h1 ha hf => ?_)
      refine mm_aload_n dX5_read_227 rfl 3 rfl ?_
      refine mm_aload_n dX5_read_228 rfl 2 rfl ?_
      refine cm_getR (b := 20) dX5_read_229 ha zr_X5_21 (by decide) rfl rfl rfl ?_
      refine cm_getI dX5_read_232 ha zr_X5_126 (by decide) rfl rfl ?_
      refine mn_top (u := .int (nI ((RR (Br w sg (gd_ sg) 0)).length))) (congrArg Value.int (((hxa 20 4 (by decide) (by decide)).trans hfo.1))) ?_
      refine mm_bipush (v := nI 31) dX5_read_235 (by decide) ?_
      refine mm_aload_n dX5_read_237 rfl 2 rfl ?_
      refine cm_getR (b := 4) dX5_read_238 ha zr_X5_14 (by decide) rfl rfl rfl ?_
      refine cm_getR (b := 10) dX5_read_241 ha zr_X5_54 (by decide) rfl rfl rfl ?_
      refine cm_getI dX5_read_244 ha zr_X5_129 (by decide) rfl rfl ?_
      refine mn_top (u := .int (nI (RH))) (congrArg Value.int ((h1012))) ?_
      refine rm_callSr (As := [.int (nI (RH))]) (rest := [.int (nI (31)), .int (nI ((RR (Br w sg (gd_ sg) 0)).length)), .ref (o + a)]) (d2 := 0) dX5_read_247 zc_X5_132 rfl rfl (Nat.le_of_ble_eq_true rfl) (Nat.le_of_ble_eq_true rfl) (by decide) (cj_nlz hr1 (Nat.lt_trans hrl (by decide))) ?_
      refine mn_isub dX5_read_250 (by omega) ?_
      refine cm_callV (As := [.int (nI ((RR (Br w sg (gd_ sg) 0)).length)), .int (nI ((31) - (31 - RH.log2)))]) (rest := []) (d2 := 0) dX5_read_251 ha (vA_lt hva 0 (by decide)) (vA_0 hva) zz_clX9 zc_X5_137 zs_X9_know rfl rfl (Nat.le_of_ble_eq_true rfl) (Nat.le_of_ble_eq_true rfl) (by decide) (cv_know (a := a) ha hva) (fun r h1 hq => ?_)
      obtain ⟨rfl, ha, hf'⟩ := hq
      have hf := hf.tr hf'
      have ex : ∀ b i, ¬ (b = a ∧ (i = 5 ∨ i = 6 ∨ i = 8)) → b ≠ 23 → b ≠ 24 → (xu (xu (xu XA a 5 (nI (RR (Br w sg (gd_ sg) 0)).length)) a 6 (nI (31 - (31 - RH.log2)))) a 8 (nI 0)) b i = X9 b i := fun b i n1 n2 n3 => by
        rw [xu_z (by omega), xu_z (by omega), xu_z (by omega)]; exact hxa b i n2 n3
      have hrdf : rdx a st X9 (xu (xu (xu XA a 5 (nI (RR (Br w sg (gd_ sg) 0)).length)) a 6 (nI (31 - (31 - RH.log2)))) a 8 (nI 0)) := fun b i z => ex b i (by omega) (by omega) (by omega)
      have hkn : kn_ (xu (xu (xu XA a 5 (nI (RR (Br w sg (gd_ sg) 0)).length)) a 6 (nI (31 - (31 - RH.log2)))) a 8 (nI 0)) Y9 w sg a := ⟨dt, E, U, P, H, PL, RS, CO, AL, LI, rq_x hrq9 hva (fun b i z => ex b i (fun q => by rcases z with z | z | z <;> first | omega | exact z.2 ⟨0, q.1, by omega⟩) (by omega) (by omega)), ⟨(ex 20 4 (by omega) (by decide) (by decide)).trans hfo.1, hfo.2.1, fun i x hx => ⟨(ex 22 i (by omega) (by decide) (by decide)).trans (hfo.2.2 i x hx).1, (hfo.2.2 i x hx).2⟩⟩, fun r hr => by
        obtain ⟨j, x, h1, h2, h3⟩ := ar_srt hrk hor r hr
        exact ⟨j, x, by rw [xu_a (by omega), xu_a (by omega), xu_a (by omega)]; exact h1, h2, h3⟩⟩
      exact mm_vret dX5_read_254 rfl (⟨rfl, _, Y9, ha, hf, hrd9.tr hrdf, hY, xu_s, ⟨_, by rw [xu_i (by decide), xu_s], hfu⟩, fun z => (ex a 7 (by omega) (by omega) (by omega)).trans (h79 z), Or.inr ⟨by rw [xu_i (by decide), xu_i (by decide), xu_s], hkn, fun z => (hbo z).imp id (fun ⟨y, h1, h2⟩ => ⟨y, h1, fun i hi => (ex (a + 2) i (by omega) (by omega) (by omega)).trans (h2.2.2 i hi)⟩)⟩⟩)
    · refine mm_aload_n dX5_read_215 rfl 2 rfl ?_
      refine cm_getR (b := 20) dX5_read_216 ha zr_X5_21 (by decide) rfl rfl rfl ?_
      refine cm_callV (As := []) (rest := []) (d2 := 1) dX5_read_219 ha (by decide) rfl zz_clX3 zc_X5_119 zs_X3_arrange rfl rfl (Nat.le_of_ble_eq_true rfl) (Nat.le_of_ble_eq_true rfl) (by decide) (cf_arrangeM ha hmany) (fun r h1 hq => ?_)
      obtain ⟨rfl, rfl⟩ := hq
      refine mm_aload_n dX5_read_222 rfl 2 rfl ?_
      refine mm_aload_n dX5_read_223 rfl 3 rfl ?_
      refine cm_putL (v := a) dX5_read_224 ha hf zp_X5_122 rfl rfl rfl rfl (fun h1 ha hf => ?_)
      refine mm_aload_n dX5_read_227 rfl 3 rfl ?_
      refine mm_aload_n dX5_read_228 rfl 2 rfl ?_
      refine cm_getR (b := 20) dX5_read_229 ha zr_X5_21 (by decide) rfl rfl rfl ?_
      refine cm_getI dX5_read_232 ha zr_X5_126 (by decide) rfl rfl ?_
      refine mn_top (u := .int (nI (1001))) (congrArg Value.int ((hmany))) ?_
      refine mm_bipush (v := nI 31) dX5_read_235 (by decide) ?_
      refine mm_aload_n dX5_read_237 rfl 2 rfl ?_
      refine cm_getR (b := 4) dX5_read_238 ha zr_X5_14 (by decide) rfl rfl rfl ?_
      refine cm_getR (b := 10) dX5_read_241 ha zr_X5_54 (by decide) rfl rfl rfl ?_
      refine cm_getI dX5_read_244 ha zr_X5_129 (by decide) rfl rfl ?_
      refine mn_top (u := .int (nI (RH))) (congrArg Value.int ((h1012))) ?_
      refine rm_callSr (As := [.int (nI (RH))]) (rest := [.int (nI (31)), .int (nI (1001)), .ref (o + a)]) (d2 := 0) dX5_read_247 zc_X5_132 rfl rfl (Nat.le_of_ble_eq_true rfl) (Nat.le_of_ble_eq_true rfl) (by decide) (cj_nlz hr1 (Nat.lt_trans hrl (by decide))) ?_
      refine mn_isub dX5_read_250 (by omega) ?_
      refine cm_callV (As := [.int (nI (1001)), .int (nI ((31) - (31 - RH.log2)))]) (rest := []) (d2 := 0) dX5_read_251 ha (vA_lt hva 0 (by decide)) (vA_0 hva) zz_clX9 zc_X5_137 zs_X9_know rfl rfl (Nat.le_of_ble_eq_true rfl) (Nat.le_of_ble_eq_true rfl) (by decide) (cv_know (a := a) ha hva) (fun r h1 hq => ?_)
      obtain ⟨rfl, ha, hf'⟩ := hq
      have hf := hf.tr hf'
      have ex : ∀ b i, ¬ (b = a ∧ (i = 5 ∨ i = 6 ∨ i = 8)) → b ≠ 23 → b ≠ 24 → (xu (xu (xu X9 a 5 (nI 1001)) a 6 (nI (31 - (31 - RH.log2)))) a 8 (nI 0)) b i = X9 b i := fun b i n1 n2 n3 => by
        rw [xu_z (by omega), xu_z (by omega), xu_z (by omega)]
      have hrdf : rdx a st X9 (xu (xu (xu X9 a 5 (nI 1001)) a 6 (nI (31 - (31 - RH.log2)))) a 8 (nI 0)) := fun b i z => ex b i (by omega) (by omega) (by omega)
      exact mm_vret dX5_read_254 rfl (⟨rfl, _, Y9, ha, hf, hrd9.tr hrdf, hY, xu_s, ⟨_, by rw [xu_i (by decide), xu_s], hfu⟩, fun z => (ex a 7 (by omega) (by omega) (by omega)).trans (h79 z), Or.inl ⟨by rw [xu_i (by decide), xu_i (by decide), xu_s], hlen⟩⟩)
  refine mm_aload_n dX5_read_22 rfl 1 rfl ?_
  refine cm_getR (b := a + 3) dX5_read_23 ha zr_X5_70 (vA_lt hva 0 (by decide)) (vA_0 hva) rfl rfl ?_
  refine cm_getI dX5_read_26 ha zr_X5_76 (vA_lt hva 3 (by decide)) (vA_3 hva) rfl ?_
  refine mn_top (u := .int (nI (w.1))) (congrArg Value.int ((hw2.1.1))) ?_
  refine mn_if_ne (tgt := 38) dX5_read_29 (by decide) (by omega) (fun c29 => ?_) (fun c29 => ?_)
  · refine mm_aload_n dX5_read_38 rfl 1 rfl ?_
    refine cm_getR (b := a + 3) dX5_read_39 ha zr_X5_70 (vA_lt hva 0 (by decide)) (vA_0 hva) rfl rfl ?_
    refine cm_getI dX5_read_42 ha zr_X5_76 (vA_lt hva 3 (by decide)) (vA_3 hva) rfl ?_
    refine mn_top (u := .int (nI (w.1))) (congrArg Value.int ((hw2.1.1))) ?_
    refine mn_if_ne (tgt := 52) dX5_read_45 (by decide) (by omega) (fun c45 => ?_) (fun c45 => ?_)
    · refine mm_iconst (v := nI 0) dX5_read_52 (by decide) ?_
      refine mm_istore_n (L' := [(2, .int (nI (0))), (0, .ref (o + 3)), (1, .ref (o + a))]) dX5_read_53 rfl (by decide) rfl ?_
      refine mm_aload_n dX5_read_54 rfl 1 rfl ?_
      refine mm_iload_n dX5_read_55 rfl 0 rfl ?_
      refine cm_callV (As := [.int (nI (0))]) (rest := []) (d2 := 0) dX5_read_56 ha (by decide) rfl zz_clX5 zc_X5_86 zs_X5_save rfl rfl (Nat.le_of_ble_eq_true rfl) (Nat.le_of_ble_eq_true rfl) (by decide) (cR_save (d := 0) ha (by decide)) (fun r h1 hq => ?_)
      obtain ⟨rfl, ha, hf'⟩ := hq
      have hf := hf.tr hf'
      obtain ⟨X3, ha, hfm3, hsv⟩ := sv_pack (w := w) (sg := sg) (g := gd_ sg) (ts := []) ha ht0 (show 0 < 1 by decide) rfl hm1 hdr
      refine mm_iconst (v := nI 0) dX5_read_59 (by decide) ?_
      refine mm_istore_n (L' := [(3, .int (nI (0))), (2, .int (nI (0))), (0, .ref (o + 3)), (1, .ref (o + a))]) dX5_read_60 rfl (by decide) rfl ?_
      refine mn_sub [0, 1, 2, 3] rfl ?_
      refine cR_loop (st := st) hva hrk hd0 en 1000000 0 0 [([], [], [], 1, 0, 1)] [] X3 Y _ (by omega) ⟨rq_x hrq hva (fun b i z => hsv b i (by omega)), (hsv a 8 (by omega)).trans hst2, ⟨⟨hfm3, ⟨⟨(fun t ht => by cases ht), trivial⟩, show 0 < w.1 by omega, show 0 < w.1 by omega, fun _ => hd0, Nat.zero_le _, by show 1 ≤ 1 + 2 * 0 + 0 + 0; omega, by show 1 ≤ 4 ^ nd2 w 0; exact Nat.pos_of_ne_zero (fun z => by have := Nat.pow_eq_zero.mp z; omega)⟩, Nat.le_refl _⟩, fun ψ hψ => (by cases hψ), trivial⟩, fo2_x hfo2 (fun b i z => hsv b i (by omega)), rem_ini hrk (by omega), fun z => ⟨(hsv a 7 (by omega)).trans (h72 z), Or.inl rfl⟩, hrd2.tr (fun b i z => hsv b i (by omega))⟩ (by show 0 + 1 ≤ 95 * 0 + 2 * 0 + 1; omega) (Or.inr rfl) (fun z => by omega) (by decide) (fun _ _ _ => rfl) ha hf
    · omega
  · refine mm_aload_n dX5_read_32 rfl 0 rfl ?_
    refine mm_aload_n dX5_read_33 rfl 1 rfl ?_
    refine mm_iconst (v := nI 0) dX5_read_34 (by decide) ?_
    refine mn_top (u := .int (nI (([] : List Nat).length))) (congrArg Value.int (rfl)) ?_
    have hBe : Br w sg (gd_ sg) 0 = [([], ([], []), 1)] := Br_end (by omega)
    refine cm_callV (As := [.ref (o + a), .int (nI (([] : List Nat).length))]) (rest := []) (d2 := 2) dX5_read_35 ha (by decide) rfl zz_clX5 zc_X5_82 zs_X5_keep rfl rfl (Nat.le_of_ble_eq_true rfl) (Nat.le_of_ble_eq_true rfl) (by decide) (cR_keep (w := w) (st := st) (R := RR []) (b := none) (cs := []) (fs := []) (vs := []) (c := 1) ha hva hst2 hdr (show 0 = w.1 by omega) h24 hfo2 ⟨by decide, fun i hi => absurd hi (Nat.not_lt_zero _), by decide⟩ (fun i hi => absurd hi (Nat.not_lt_zero _)) (by decide) (fun _ => Or.inl ⟨rfl, rfl⟩) (fun y hy => by cases hy)) (fun r h1 hq => ?_)
    obtain ⟨rfl, X5, Y5, ha, hf', hkx, hy5, hR, hq1, hq2⟩ := hq
    have hf := hf.tr hf'
    have hR : fo2 X5 Y5 (RR [([], ([], []), 1)]) := by
      rw [if_pos (by decide)] at hR
      exact hR
    refine mm_aload_n dX5_read_38 rfl 1 rfl ?_
    refine cm_getR (b := a + 3) dX5_read_39 ha zr_X5_70 (vA_lt hva 0 (by decide)) (vA_0 hva) rfl rfl ?_
    refine cm_getI dX5_read_42 ha zr_X5_76 (vA_lt hva 3 (by decide)) (vA_3 hva) rfl ?_
    refine mn_top (u := .int (nI (w.1))) (congrArg Value.int (((hkx (a + 3) 6 (by omega) (by omega) (by omega) (by omega) (by omega)).trans hw2.1.1))) ?_
    refine mn_if_ne (tgt := 52) dX5_read_45 (by decide) (by omega) (fun c45 => ?_) (fun c45 => ?_)
    · omega
    · refine mm_iconst (v := (-1)) dX5_read_48 (by decide) ?_
      refine mm_goto (tgt := 53) dX5_read_49 (by decide) ?_
      refine mm_istore_n (L' := [(2, .int ((-1))), (0, .ref (o + 3)), (1, .ref (o + a))]) dX5_read_53 rfl (by decide) rfl ?_
      refine mm_aload_n dX5_read_54 rfl 1 rfl ?_
      refine mm_iload_n dX5_read_55 rfl 0 rfl ?_
      refine cm_callV (As := [.int ((-1))]) (rest := []) (d2 := 0) dX5_read_56 ha (by decide) rfl zz_clX5 zc_X5_86 zs_X5_save rfl rfl (Nat.le_of_ble_eq_true rfl) (Nat.le_of_ble_eq_true rfl) (by decide) (cR_savem ha) (fun r h1 hq => ?_)
      obtain ⟨rfl, ha, hf'⟩ := hq
      have hf := hf.tr hf'
      refine mm_iconst (v := nI 0) dX5_read_59 (by decide) ?_
      refine mm_istore_n (L' := [(3, .int (nI (0))), (2, .int ((-1))), (0, .ref (o + 3)), (1, .ref (o + a))]) dX5_read_60 rfl (by decide) rfl ?_
      refine mn_sub [0, 1, 2, 3] rfl ?_
      exact cR_loop (st := st) hva hrk hd0 en 1000000 0 0 [] [([], ([], []), 1)] X5 Y5 _ (by omega) ⟨hkx.q hva hrq, (hkx a 8 (by omega) (by omega) (by omega) (by omega) (by omega)).trans hst2, trivial, hR, by rw [hBe]; rfl, fun z => ⟨(hq1 z).2.1, Or.inr ⟨_, rfl, hq1 z⟩⟩, hrd2.tr (hkx.rd hq2 hva)⟩ (by show 0 + 0 ≤ 95 * 1 + 2 * 0 + 1; omega) (Or.inr rfl) (fun z => by omega) (by decide) hy5 ha hf
