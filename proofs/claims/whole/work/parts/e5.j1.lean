/-! every call: the class answers what the reference answers -/
theorem J_voice {s : aS} (hW : WF s) (g : Int32) : JI s yX11_voice cX11_voice 3 yX12_voice cX12_voice 2 [.int g] := by
  rcases i32_or (v := g) 16 (by decide) with ⟨k, hk, rfl⟩ | hg
  · by_cases h6 : aNv s = 6
    · exact JI.mk1 (s) (-3) hW (fun l D aa b0 h X Y rl ST ha hI => pc_a ha hI (by decide) (cM_voiceF (o := 0) ha hW hI hk h6)) (fun l D aa b0 h F G A B ha hI => pr_a ha hI (by decide) (tM_voiceF (o := 169) ha hW hI hk h6))
    · have h6 : aNv s < 6 := by have := hW.1.1; omega
      exact JI.mk1 (aVoice s k) (nI (aNv s)) (WF_voice hW h6 hk) (fun l D aa b0 h X Y rl ST ha hI => pc_c (by decide) (cM_voice (o := 0) ha hW hI hk h6)) (fun l D aa b0 h F G A B ha hI => pr_b (by decide) (tM_voice (o := 169) ha hW hI hk h6))
  · exact JI.mk1 (s) (-2) hW (fun l D aa b0 h X Y rl ST ha hI => pc_a ha hI (by decide) (cM_voiceB (o := 0) ha hW hI hg)) (fun l D aa b0 h F G A B ha hI => pr_a ha hI (by decide) (tM_voiceB (o := 169) ha hW hI hg))
theorem J_note {s : aS} (hW : WF s) (v k p : Int32) (b : Bool) : JI s yX11_note cX11_note 6 yX12_note cX12_note 5 [.int v, .int k, .int p, .int (nI (Bool.toNat b))] := by
  have hv31 : aNv s < 2 ^ 31 := by have := hW.1.1; omega
  rcases i32_or (v := v) (aNv s) hv31 with ⟨n, hn, rfl⟩ | hv
  · have hn6 : n < 6 := by have := hW.1.1; omega
    have hvok := hW.2.1 n hn6
    have hs24 : aSz s n ≤ 24 := hvok.1.2
    rcases i32_or (v := k) 7 (by decide) with ⟨ki, hki, rfl⟩ | hk
    · by_cases hp : (-40) ≤ p ∧ p ≤ nI 40
      · by_cases hr : aSz s n < 24
        · exact JI.mk1 (aPut s n 1 ki p.toInt b) (nI (aSz s n)) (WF_put hW hn hr (by decide) hki (ii_40.mp hp) (fun z => absurd rfl z) (fun z => by omega)) (fun l D aa b0 h X Y rl ST ha hI => pc_c (by decide) (cM_note (o := 0) ha hW hI hn hki hp hr)) (fun l D aa b0 h F G A B ha hI => pr_b (by decide) (tM_note (o := 169) ha hW hI hn hki hp hr))
        · exact JI.mk1 (s) (-3) hW (fun l D aa b0 h X Y rl ST ha hI => pc_c (by decide) (cM_noteF (o := 0) ha hW hI hn hki hp (by omega))) (fun l D aa b0 h F G A B ha hI => pr_b (by decide) (tM_noteF (o := 169) ha hW hI hn hki hp (by omega)))
      · exact JI.mk1 (s) (-2) hW (fun l D aa b0 h X Y rl ST ha hI => pc_a ha hI (by decide) (cM_noteB (o := 0) ha hW hI hn (Or.inr hp))) (fun l D aa b0 h F G A B ha hI => pr_a ha hI (by decide) (tM_noteP (o := 169) ha hW hI hn hki (fun z => hp (ii_40.mpr z))))
    · exact JI.mk1 (s) (-2) hW (fun l D aa b0 h X Y rl ST ha hI => pc_a ha hI (by decide) (cM_noteB (o := 0) ha hW hI hn (Or.inl (ii_7 hk).1))) (fun l D aa b0 h F G A B ha hI => pr_a ha hI (by decide) (tM_noteK (o := 169) ha hW hI hn (ii_7 hk).2))
  · exact JI.mk1 (s) (-2) hW (fun l D aa b0 h X Y rl ST ha hI => pc_a ha hI (by decide) (cM_noteN (o := 0) ha hW hI hv)) (fun l D aa b0 h F G A B ha hI => pr_a ha hI (by decide) (tM_noteN (o := 169) ha hW hI hv))
theorem J_rest {s : aS} (hW : WF s) (v k : Int32) : JI s yX11_rest cX11_rest 4 yX12_rest cX12_rest 3 [.int v, .int k] := by
  have hv31 : aNv s < 2 ^ 31 := by have := hW.1.1; omega
  rcases i32_or (v := v) (aNv s) hv31 with ⟨n, hn, rfl⟩ | hv
  · have hn6 : n < 6 := by have := hW.1.1; omega
    have hvok := hW.2.1 n hn6
    have hs24 : aSz s n ≤ 24 := hvok.1.2
    rcases i32_or (v := k) 7 (by decide) with ⟨ki, hki, rfl⟩ | hk
    · by_cases hr : aSz s n < 24
      · exact JI.mk1 (aPut s n 2 ki 0 false) (nI (aSz s n)) (WF_put hW hn hr (by decide) hki (by decide) (fun _ => rfl) (fun z => by omega)) (fun l D aa b0 h X Y rl ST ha hI => pc_c (by decide) (cM_rest (o := 0) ha hW hI hn hki hr)) (fun l D aa b0 h F G A B ha hI => pr_b (by decide) (tM_rest (o := 169) ha hW hI hn hki hr))
      · exact JI.mk1 (s) (-3) hW (fun l D aa b0 h X Y rl ST ha hI => pc_c (by decide) (cM_restF (o := 0) ha hW hI hn hki (by omega))) (fun l D aa b0 h F G A B ha hI => pr_b (by decide) (tM_restF (o := 169) ha hW hI hn hki (by omega)))
    · exact JI.mk1 (s) (-2) hW (fun l D aa b0 h X Y rl ST ha hI => pc_a ha hI (by decide) (cM_restB (o := 0) ha hW hI hn (ii_7 hk).1)) (fun l D aa b0 h F G A B ha hI => pr_a ha hI (by decide) (tM_restK (o := 169) ha hW hI hn (ii_7 hk).2))
  · exact JI.mk1 (s) (-2) hW (fun l D aa b0 h X Y rl ST ha hI => pc_a ha hI (by decide) (cM_restN (o := 0) ha hW hI hv)) (fun l D aa b0 h F G A B ha hI => pr_a ha hI (by decide) (tM_restN (o := 169) ha hW hI hv))
theorem J_dot {s : aS} (hW : WF s) (v : Int32) : JI s yX11_dot cX11_dot 4 yX12_dot cX12_dot 2 [.int v] := by
  have hv31 : aNv s < 2 ^ 31 := by have := hW.1.1; omega
  rcases i32_or (v := v) (aNv s) hv31 with ⟨n, hn, rfl⟩ | hv
  · have hn6 : n < 6 := by have := hW.1.1; omega
    have hvok := hW.2.1 n hn6
    have hs24 : aSz s n ≤ 24 := hvok.1.2
    by_cases h0 : aSz s n = 0
    · exact JI.mk1 (s) (-2) hW (fun l D aa b0 h X Y rl ST ha hI => pc_a ha hI (by decide) (cM_dotE (o := 0) ha hW hI hn h0)) (fun l D aa b0 h F G A B ha hI => pr_a ha hI (by decide) (tM_dotE (o := 169) ha hW hI hn h0))
    · by_cases hl : aSo s (24 * n + (aSz s n - 1)) = 3
      · exact JI.mk1 (s) (-2) hW (fun l D aa b0 h X Y rl ST ha hI => pc_a ha hI (by decide) (cM_dotD (o := 0) ha hW hI hn h0 hl)) (fun l D aa b0 h F G A B ha hI => pr_a ha hI (by decide) (tM_dotD (o := 169) ha hW hI hn h0 hl))
      · by_cases hr : aSz s n < 24
        · exact JI.mk1 (aPut s n 3 0 0 false) (nI (aSz s n)) (WF_put hW hn hr (by decide) (by decide) (by decide) (fun _ => rfl) (fun _ => ⟨h0, hl⟩)) (fun l D aa b0 h X Y rl ST ha hI => pc_c (by decide) (cM_dot (o := 0) ha hW hI hn h0 hl hr)) (fun l D aa b0 h F G A B ha hI => pr_b (by decide) (tM_dot (o := 169) ha hW hI hn h0 hl hr))
        · exact JI.mk1 (s) (-3) hW (fun l D aa b0 h X Y rl ST ha hI => pc_c (by decide) (cM_dotF (o := 0) ha hW hI hn h0 hl (by omega))) (fun l D aa b0 h F G A B ha hI => pr_b (by decide) (tM_dotF (o := 169) ha hW hI hn h0 hl (by omega)))
  · exact JI.mk1 (s) (-2) hW (fun l D aa b0 h X Y rl ST ha hI => pc_a ha hI (by decide) (cM_dotN (o := 0) ha hW hI hv)) (fun l D aa b0 h F G A B ha hI => pr_a ha hI (by decide) (tM_dotN (o := 169) ha hW hI hv))
theorem J_ligature {s : aS} (hW : WF s) (v sh m : Int32) (x : Int64) : JI s yX11_ligature cX11_ligature 9 yX12_ligature cX12_ligature 11 [.int v, .int sh, .int m, .long x] := by
  have hv31 : aNv s < 2 ^ 31 := by have := hW.1.1; omega
  rcases i32_or (v := v) (aNv s) hv31 with ⟨n, hn, rfl⟩ | hv
  · have hn6 : n < 6 := by have := hW.1.1; omega
    have hvok := hW.2.1 n hn6
    have hs24 : aSz s n ≤ 24 := hvok.1.2
    by_cases h1 : (0 : Int) ≤ sh.toInt ∧ sh.toInt ≤ 15
    · by_cases h2 : (2 : Int) ≤ m.toInt ∧ m.toInt ≤ 8
      · obtain ⟨a, rfl, -, ha2⟩ := ii_r (lo := 0) (hi := 15) h1
        obtain ⟨k, rfl, hk1, hk2⟩ := ii_r (lo := 2) (hi := 8) h2
        have hsh : a < 16 := by omega
        by_cases hP : lgP x k
        · by_cases hS : lgS a k x
          · by_cases hr : aSz s n + k ≤ 24
            · exact JI.mk1 (aLig s n a k x k) (nI (aSz s n)) (aLig_W hW hn hP hr k (Nat.le_refl _)) (fun l D aa b0 h X Y rl ST ha hI => pc_d (by decide) (cM_lig (o := 0) ha hW hI hn hsh ⟨hk1, hk2⟩ hP hS hr)) (fun l D aa b0 h F G A B ha hI => pr_b (by decide) (tM_lig (o := 169) ha hW hI hn hsh ⟨hk1, hk2⟩ hP hS hr))
            · exact JI.mk1 (s) (-3) hW (fun l D aa b0 h X Y rl ST ha hI => pc_a ha hI (by decide) (cM_ligF (o := 0) ha hW hI hn hsh ⟨hk1, hk2⟩ hP hS (by omega))) (fun l D aa b0 h F G A B ha hI => pr_a ha hI (by decide) (tM_ligF (o := 169) ha hW hI hn hsh ⟨hk1, hk2⟩ hP hS (by omega)))
          · exact JI.mk1 (s) (-5) hW (fun l D aa b0 h X Y rl ST ha hI => pc_a ha hI (by decide) (cM_ligS (o := 0) ha hW hI hn hsh ⟨hk1, hk2⟩ hP hS)) (fun l D aa b0 h F G A B ha hI => pr_a ha hI (by decide) (tM_ligS (o := 169) ha hW hI hn hsh ⟨hk1, hk2⟩ hP hS))
        · exact JI.mk1 (s) (-2) hW (fun l D aa b0 h X Y rl ST ha hI => pc_a ha hI (by decide) (cM_ligP (o := 0) ha hW hI hn hsh ⟨hk1, hk2⟩ hP)) (fun l D aa b0 h F G A B ha hI => pr_a ha hI (by decide) (tM_ligP (o := 169) ha hW hI hn hsh ⟨hk1, hk2⟩ hP))
      · exact JI.mk1 (s) (-2) hW (fun l D aa b0 h X Y rl ST ha hI => pc_a ha hI (by decide) (cM_ligB (o := 0) ha hW hI hn (fun z => h2 (ii_28.mp ⟨z.2.2.1, z.2.2.2⟩)))) (fun l D aa b0 h F G A B ha hI => pr_a ha hI (by decide) (tM_ligB2 (o := 169) ha hW hI hn h1 h2))
    · exact JI.mk1 (s) (-2) hW (fun l D aa b0 h X Y rl ST ha hI => pc_a ha hI (by decide) (cM_ligB (o := 0) ha hW hI hn (fun z => h1 ((ii_0n (n := 15) (by decide)).mp ⟨z.1, z.2.1⟩)))) (fun l D aa b0 h F G A B ha hI => pr_a ha hI (by decide) (tM_ligB1 (o := 169) ha hW hI hn h1))
  · exact JI.mk1 (s) (-2) hW (fun l D aa b0 h X Y rl ST ha hI => pc_a ha hI (by decide) (cM_ligatureN (o := 0) ha hW hI hv)) (fun l D aa b0 h F G A B ha hI => pr_a ha hI (by decide) (tM_ligatureN (o := 169) ha hW hI hv))
theorem J_proportion {s : aS} (hW : WF s) (v u d : Int32) : JI s yX11_proportion cX11_proportion 5 yX12_proportion cX12_proportion 7 [.int v, .int u, .int d] := by
  have hv31 : aNv s < 2 ^ 31 := by have := hW.1.1; omega
  rcases i32_or (v := v) (aNv s) hv31 with ⟨n, hn, rfl⟩ | hv
  · have hn6 : n < 6 := by have := hW.1.1; omega
    have hvok := hW.2.1 n hn6
    have hs24 : aSz s n ≤ 24 := hvok.1.2
    by_cases h1 : (1 : Int) ≤ u.toInt ∧ u.toInt ≤ 9
    · by_cases h2 : (1 : Int) ≤ d.toInt ∧ d.toInt ≤ 9
      · obtain ⟨a, rfl, ha1, ha2⟩ := ii_r (lo := 1) (hi := 9) h1
        obtain ⟨k, rfl, hk1, hk2⟩ := ii_r (lo := 1) (hi := 9) h2
        by_cases hg : 1000 < (red (aUp s n * a) (aDn s n * k)).1 ∨ 1000 < (red (aUp s n * a) (aDn s n * k)).2
        · exact JI.mk1 (s) (-3) hW (fun l D aa b0 h X Y rl ST ha hI => pc_a ha hI (by decide) (cM_proportionF (o := 0) ha hW hI hn ⟨by omega, ha2⟩ ⟨by omega, hk2⟩ hg)) (fun l D aa b0 h F G A B ha hI => pr_a ha hI (by decide) (tM_proportionF (o := 169) ha hW hI hn ⟨by omega, ha2⟩ ⟨by omega, hk2⟩ hg))
        · have hok := prop_ok (hvok.2.2.1 hn).1 (hvok.2.2.1 hn).2 ⟨by omega, ha2⟩ ⟨by omega, hk2⟩ hg
          exact JI.mk1 (aProp s n (red (aUp s n * a) (aDn s n * k)).1 (red (aUp s n * a) (aDn s n * k)).2) (nI 1) (WF_prop hW hok.1 hok.2) (fun l D aa b0 h X Y rl ST ha hI => pc_c (by decide) (cM_proportion (o := 0) ha hW hI hn ⟨by omega, ha2⟩ ⟨by omega, hk2⟩ hg)) (fun l D aa b0 h F G A B ha hI => pr_b (by decide) (tM_proportion (o := 169) ha hW hI hn ⟨by omega, ha2⟩ ⟨by omega, hk2⟩ hg))
      · exact JI.mk1 (s) (-2) hW (fun l D aa b0 h X Y rl ST ha hI => pc_a ha hI (by decide) (cM_proportionB (o := 0) ha hW hI hn (fun z => h2 (ii_19.mp ⟨z.2.2.1, z.2.2.2⟩)))) (fun l D aa b0 h F G A B ha hI => pr_a ha hI (by decide) (tM_proportionD (o := 169) ha hW hI hn h1 h2))
    · exact JI.mk1 (s) (-2) hW (fun l D aa b0 h X Y rl ST ha hI => pc_a ha hI (by decide) (cM_proportionB (o := 0) ha hW hI hn (fun z => h1 (ii_19.mp ⟨z.1, z.2.1⟩)))) (fun l D aa b0 h F G A B ha hI => pr_a ha hI (by decide) (tM_proportionU (o := 169) ha hW hI hn h1))
  · exact JI.mk1 (s) (-2) hW (fun l D aa b0 h X Y rl ST ha hI => pc_a ha hI (by decide) (cM_proportionN (o := 0) ha hW hI hv)) (fun l D aa b0 h F G A B ha hI => pr_a ha hI (by decide) (tM_proportionN (o := 169) ha hW hI hv))
theorem J_back {s : aS} (hW : WF s) (v : Int32) : JI s yX11_back cX11_back 3 yX12_back cX12_back 2 [.int v] := by
  have hv31 : aNv s < 2 ^ 31 := by have := hW.1.1; omega
  rcases i32_or (v := v) (aNv s) hv31 with ⟨n, hn, rfl⟩ | hv
  · have hn6 : n < 6 := by have := hW.1.1; omega
    have hvok := hW.2.1 n hn6
    have hs24 : aSz s n ≤ 24 := hvok.1.2
    by_cases h0 : aSz s n = 0
    · exact JI.mk1 (s) (-1) hW (fun l D aa b0 h X Y rl ST ha hI => pc_a ha hI (by decide) (cM_backE (o := 0) ha hW hI hn h0)) (fun l D aa b0 h F G A B ha hI => pr_a ha hI (by decide) (tM_backE (o := 169) ha hW hI hn h0))
    · exact JI.mk1 (aBack s n) (nI (aSz s n - 1)) (WF_back hW hn) (fun l D aa b0 h X Y rl ST ha hI => pc_c (by decide) (cM_back (o := 0) ha hW hI hn h0)) (fun l D aa b0 h F G A B ha hI => pr_b (by decide) (tM_back (o := 169) ha hW hI hn h0))
  · exact JI.mk1 (s) (-2) hW (fun l D aa b0 h X Y rl ST ha hI => pc_a ha hI (by decide) (cM_backN (o := 0) ha hW hI hv)) (fun l D aa b0 h F G A B ha hI => pr_a ha hI (by decide) (tM_backN (o := 169) ha hW hI hv))
theorem J_told {s : aS} (hW : WF s) (v w : Int32) : JI s yX11_told cX11_told 4 yX12_told cX12_told 3 [.int v, .int w] := by
  have hv31 : aNv s < 2 ^ 31 := by have := hW.1.1; omega
  rcases i32_or (v := v) (aNv s) hv31 with ⟨n, hn, rfl⟩ | hv
  · have hn6 : n < 6 := by have := hW.1.1; omega
    have hvok := hW.2.1 n hn6
    have hs24 : aSz s n ≤ 24 := hvok.1.2
    rcases i32_or (v := w) 7 (by decide) with ⟨k, hk, rfl⟩ | hw
    · exact JI.mk1 (s) (nI (toldA s n k)) hW (fun l D aa b0 h X Y rl ST ha hI => pc_a ha hI (by decide) (cM_told (o := 0) ha hW hI hn hk)) (fun l D aa b0 h F G A B ha hI => pr_a ha hI (by decide) (tM_told (o := 169) ha hW hI hn hk))
    · exact JI.mk1 (s) (-2) hW (fun l D aa b0 h X Y rl ST ha hI => pc_a ha hI (by decide) (cM_toldO (o := 0) ha hW hI hn hw)) (fun l D aa b0 h F G A B ha hI => pr_a ha hI (by decide) (tM_toldO (o := 169) ha hW hI hn hw))
  · exact JI.mk1 (s) (-2) hW (fun l D aa b0 h X Y rl ST ha hI => pc_a ha hI (by decide) (cM_toldN (o := 0) ha hW hI hv)) (fun l D aa b0 h F G A B ha hI => pr_a ha hI (by decide) (tM_toldN (o := 169) ha hW hI hv))
theorem J_symbol {s : aS} (hW : WF s) (v i w : Int32) : JI s yX11_symbol cX11_symbol 6 yX12_symbol cX12_symbol 5 [.int v, .int i, .int w] := by
  have hv31 : aNv s < 2 ^ 31 := by have := hW.1.1; omega
  rcases i32_or (v := v) (aNv s) hv31 with ⟨n, hn, rfl⟩ | hv
  · have hn6 : n < 6 := by have := hW.1.1; omega
    have hvok := hW.2.1 n hn6
    have hs24 : aSz s n ≤ 24 := hvok.1.2
    rcases i32_or (v := i) (aSz s n) (by omega) with ⟨j, hj, rfl⟩ | hi
    · rcases i32_or (v := w) 4 (by decide) with ⟨k, hk, rfl⟩ | hw
      · exact JI.mk1 (s) (symA s n j k) hW (fun l D aa b0 h X Y rl ST ha hI => pc_a ha hI (by decide) (cM_symbol (o := 0) ha hW hI hn hj hk)) (fun l D aa b0 h F G A B ha hI => pr_a ha hI (by decide) (tM_symbol (o := 169) ha hW hI hn hj hk))
      · exact JI.mk1 (s) (-2) hW (fun l D aa b0 h X Y rl ST ha hI => pc_a ha hI (by decide) (cM_symbolO (o := 0) ha hW hI hn hj hw)) (fun l D aa b0 h F G A B ha hI => pr_a ha hI (by decide) (tM_symbolO (o := 169) ha hW hI hn hj hw))
    · exact JI.mk1 (s) (-2) hW (fun l D aa b0 h X Y rl ST ha hI => pc_a ha hI (by decide) (cM_symbolI (o := 0) ha hW hI hn hi)) (fun l D aa b0 h F G A B ha hI => pr_a ha hI (by decide) (tM_symbolI (o := 169) ha hW hI hn hi))
  · exact JI.mk1 (s) (-2) hW (fun l D aa b0 h X Y rl ST ha hI => pc_a ha hI (by decide) (cM_symbolN (o := 0) ha hW hI hv)) (fun l D aa b0 h F G A B ha hI => pr_a ha hI (by decide) (tM_symbolN (o := 169) ha hW hI hv))
theorem J_readings {s : aS} (hW : WF s) (v : Int32) : JI s yX11_readings cX11_readings 3 yX12_readings cX12_readings 2 [.int v] := by
  have hv31 : aNv s < 2 ^ 31 := by have := hW.1.1; omega
  rcases i32_or (v := v) (aNv s) hv31 with ⟨n, hn, rfl⟩ | hv
  · have hn6 : n < 6 := by have := hW.1.1; omega
    have hvok := hW.2.1 n hn6
    have hs24 : aSz s n ≤ 24 := hvok.1.2
    exact JI.mk1 (s) (if 1000 < (aR s n).length then (-4) else nI (aR s n).length) hW (fun l D aa b0 h X Y rl ST ha hI => pc_b (by decide) (cM_readings (o := 0) ha hW hI hn)) (fun l D aa b0 h F G A B ha hI => pr_b (by decide) (tM_readings (o := 169) ha hW hI hn))
  · exact JI.mk1 (s) (-2) hW (fun l D aa b0 h X Y rl ST ha hI => pc_a ha hI (by decide) (cM_readingsN (o := 0) ha hW hI hv)) (fun l D aa b0 h F G A B ha hI => pr_a ha hI (by decide) (tM_readingsN (o := 169) ha hW hI hv))
theorem J_stuck {s : aS} (hW : WF s) (v : Int32) : JI s yX11_stuck cX11_stuck 3 yX12_stuck cX12_stuck 5 [.int v] := by
  have hv31 : aNv s < 2 ^ 31 := by have := hW.1.1; omega
  rcases i32_or (v := v) (aNv s) hv31 with ⟨n, hn, rfl⟩ | hv
  · have hn6 : n < 6 := by have := hW.1.1; omega
    have hvok := hW.2.1 n hn6
    have hs24 : aSz s n ≤ 24 := hvok.1.2
    refine ⟨s, fun x => ∃ u, fu_ (aW s n) (aSg s n) u ∧ x = (if u = aSz s n then (-1) else nI u), hW, fun l D aa b0 h X Y rl ST ha hI => mm_mono (show 5 ≤ 12 by decide) (mm_weak (cM_stuck (o := 0) ha hW hI hn) (fun r h' q => ?_)), fun x hx l D aa b0 h F G A B ha hI => ?_⟩
    · obtain ⟨⟨u, q1, q2⟩, q3⟩ := q
      exact ⟨⟨_, ⟨u, q1, rfl⟩, q2⟩, q3⟩
    · obtain ⟨u, hu, rfl⟩ := hx
      by_cases hz : (aR s n).length = 0
      · refine mm_mono (show 9 ≤ 12 by decide) (mm_weak (tM_stuckZ (o := 169) ha hW hI hn hz) (fun r h' q => ?_))
        obtain ⟨q1, F', A', q2, q3, q4⟩ := q
        exact ⟨q1 u hu, F', G, A', B, q2, q3, q4⟩
      · refine mm_mono (show 9 ≤ 12 by decide) (mm_weak (tM_stuckS (o := 169) ha hW hI hn hz) (fun r h' q => ?_))
        obtain ⟨q1, F', A', q2, q3, q4⟩ := q
        exact ⟨q1 u hu, F', G, A', B, q2, q3, q4⟩
  · exact JI.mk1 (s) (-2) hW (fun l D aa b0 h X Y rl ST ha hI => pc_a ha hI (by decide) (cM_stuckN (o := 0) ha hW hI hv)) (fun l D aa b0 h F G A B ha hI => pr_a ha hI (by decide) (tM_stuckN (o := 169) ha hW hI hv))
theorem J_strained {s : aS} (hW : WF s) (v r : Int32) : JI s yX11_strained cX11_strained 5 yX12_strained cX12_strained 4 [.int v, .int r] := by
  have hv31 : aNv s < 2 ^ 31 := by have := hW.1.1; omega
  rcases i32_or (v := v) (aNv s) hv31 with ⟨n, hn, rfl⟩ | hv
  · have hn6 : n < 6 := by have := hW.1.1; omega
    have hvok := hW.2.1 n hn6
    have hs24 : aSz s n ≤ 24 := hvok.1.2
    rcases rf_c (aR s n).length r with hr0 | ⟨hN, k, hk, rfl⟩
    · exact JI.mk1 (s) (rfA (aR s n).length r) hW (fun l D aa b0 h X Y rl ST ha hI => pc_b (by decide) (cM_strainedR (o := 0) ha hW hI hn hr0)) (fun l D aa b0 h F G A B ha hI => pr_b (by decide) (tM_strainedR (o := 169) ha hW hI hn hr0))
    · obtain ⟨y, hy⟩ : ∃ y, (aR s n)[k]? = some y := ⟨_, List.getElem?_eq_getElem hk⟩
      exact JI.mk1 (s) (nI (sn_ y.1)) hW (fun l D aa b0 h X Y rl ST ha hI => pc_b (by decide) (cM_strained (o := 0) ha hW hI hn hN hk hy)) (fun l D aa b0 h F G A B ha hI => pr_b (by decide) (tM_strained (o := 169) ha hW hI hn hN hk hy))
  · exact JI.mk1 (s) (-2) hW (fun l D aa b0 h X Y rl ST ha hI => pc_a ha hI (by decide) (cM_strainedN (o := 0) ha hW hI hv)) (fun l D aa b0 h F G A B ha hI => pr_a ha hI (by decide) (tM_strainedN (o := 169) ha hW hI hv))
theorem J_form {s : aS} (hW : WF s) (v r i : Int32) : JI s yX11_form cX11_form 6 yX12_form cX12_form 5 [.int v, .int r, .int i] := by
  have hv31 : aNv s < 2 ^ 31 := by have := hW.1.1; omega
  rcases i32_or (v := v) (aNv s) hv31 with ⟨n, hn, rfl⟩ | hv
  · have hn6 : n < 6 := by have := hW.1.1; omega
    have hvok := hW.2.1 n hn6
    have hs24 : aSz s n ≤ 24 := hvok.1.2
    rcases rf_c (aR s n).length r with hr0 | ⟨hN, k, hk, rfl⟩
    · exact JI.mk1 (s) (rfA (aR s n).length r) hW (fun l D aa b0 h X Y rl ST ha hI => pc_b (by decide) (cM_formR (o := 0) ha hW hI hn hr0)) (fun l D aa b0 h F G A B ha hI => pr_b (by decide) (tM_formR (o := 169) ha hW hI hn hr0))
    · obtain ⟨y, hy⟩ : ∃ y, (aR s n)[k]? = some y := ⟨_, List.getElem?_eq_getElem hk⟩
      rcases ii_n i with hi | ⟨j, hj, rfl⟩
      · exact JI.mk1 (s) (-1) hW (fun l D aa b0 h X Y rl ST ha hI => pc_b (by decide) (cM_formN2 (o := 0) ha hW hI hn hN hk hy (Or.inl hi))) (fun l D aa b0 h F G A B ha hI => pr_b (by decide) (tM_formN2 (o := 169) ha hW hI hn hN hk hy (Or.inl hi)))
      · exact JI.mk1 (s) (if j < y.1.length then nI (y.1.getD j 0) else (-1)) hW (fun l D aa b0 h X Y rl ST ha hI => pc_b (by decide) (cM_form (o := 0) ha hW hI hn hN hk hy hj)) (fun l D aa b0 h F G A B ha hI => pr_b (by decide) (tM_form (o := 169) ha hW hI hn hN hk hy hj))
  · exact JI.mk1 (s) (-2) hW (fun l D aa b0 h X Y rl ST ha hI => pc_a ha hI (by decide) (cM_formN (o := 0) ha hW hI hv)) (fun l D aa b0 h F G A B ha hI => pr_a ha hI (by decide) (tM_formN (o := 169) ha hW hI hv))
theorem J_value {s : aS} (hW : WF s) (v r i : Int32) : JI s yX11_value cX11_value 6 yX12_value cX12_value 5 [.int v, .int r, .int i] := by
  have hv31 : aNv s < 2 ^ 31 := by have := hW.1.1; omega
  rcases i32_or (v := v) (aNv s) hv31 with ⟨n, hn, rfl⟩ | hv
  · have hn6 : n < 6 := by have := hW.1.1; omega
    have hvok := hW.2.1 n hn6
    have hs24 : aSz s n ≤ 24 := hvok.1.2
    rcases rf_c (aR s n).length r with hr0 | ⟨hN, k, hk, rfl⟩
    · exact JI.mk1 (s) (rfA (aR s n).length r) hW (fun l D aa b0 h X Y rl ST ha hI => pc_b (by decide) (cM_valueR (o := 0) ha hW hI hn hr0)) (fun l D aa b0 h F G A B ha hI => pr_b (by decide) (tM_valueR (o := 169) ha hW hI hn hr0))
    · obtain ⟨y, hy⟩ : ∃ y, (aR s n)[k]? = some y := ⟨_, List.getElem?_eq_getElem hk⟩
      rcases i32_or (v := i) (aSz s n) (by omega) with ⟨j, hj, rfl⟩ | hi
      · exact JI.mk1 (s) (nI (y.2.getD j 0)) hW (fun l D aa b0 h X Y rl ST ha hI => pc_b (by decide) (cM_value (o := 0) ha hW hI hn hN hk hy hj)) (fun l D aa b0 h F G A B ha hI => pr_b (by decide) (tM_value (o := 169) ha hW hI hn hN hk hy hj))
      · exact JI.mk1 (s) (-1) hW (fun l D aa b0 h X Y rl ST ha hI => pc_b (by decide) (cM_valueN2 (o := 0) ha hW hI hn hN hk hy hi)) (fun l D aa b0 h F G A B ha hI => pr_b (by decide) (tM_valueN2 (o := 169) ha hW hI hn hN hk hy hi))
  · exact JI.mk1 (s) (-2) hW (fun l D aa b0 h X Y rl ST ha hI => pc_a ha hI (by decide) (cM_valueN (o := 0) ha hW hI hv)) (fun l D aa b0 h F G A B ha hI => pr_a ha hI (by decide) (tM_valueN (o := 169) ha hW hI hv))
theorem J_pick {s : aS} (hW : WF s) (v r : Int32) : JI s yX11_pick cX11_pick 6 yX12_pick cX12_pick 5 [.int v, .int r] := by
  have hv31 : aNv s < 2 ^ 31 := by have := hW.1.1; omega
  rcases i32_or (v := v) (aNv s) hv31 with ⟨n, hn, rfl⟩ | hv
  · have hn6 : n < 6 := by have := hW.1.1; omega
    have hvok := hW.2.1 n hn6
    have hs24 : aSz s n ≤ 24 := hvok.1.2
    rcases rf_c (aR s n).length r with hr0 | ⟨hN, k, hk, rfl⟩
    · exact JI.mk1 (s) (rfA (aR s n).length r) hW (fun l D aa b0 h X Y rl ST ha hI => pc_b (by decide) (cM_pickR (o := 0) ha hW hI hn hr0)) (fun l D aa b0 h F G A B ha hI => pr_b (by decide) (tM_pickR (o := 169) ha hW hI hn hr0))
    · obtain ⟨y, hy⟩ : ∃ y, (aR s n)[k]? = some y := ⟨_, List.getElem?_eq_getElem hk⟩
      exact JI.mk1 (aPick s n k) (nI (aPk s n)) (WF_pick hW hn hk) (fun l D aa b0 h X Y rl ST ha hI => pc_b (by decide) (cM_pick (o := 0) ha hW hI hn hN hk hy)) (fun l D aa b0 h F G A B ha hI => pr_b (by decide) (tM_pick (o := 169) ha hW hI hn hN hk hy))
  · exact JI.mk1 (s) (-2) hW (fun l D aa b0 h X Y rl ST ha hI => pc_a ha hI (by decide) (cM_pickN (o := 0) ha hW hI hv)) (fun l D aa b0 h F G A B ha hI => pr_a ha hI (by decide) (tM_pickN (o := 169) ha hW hI hv))
theorem J_time {s : aS} (hW : WF s) (v i w : Int32) : JL s yX11_time cX11_time 6 yX12_time cX12_time 5 [.int v, .int i, .int w] := by
  have hv31 : aNv s < 2 ^ 31 := by have := hW.1.1; omega
  rcases i32_or (v := v) (aNv s) hv31 with ⟨n, hn, rfl⟩ | hv
  · have hn6 : n < 6 := by have := hW.1.1; omega
    have hvok := hW.2.1 n hn6
    have hs24 : aSz s n ≤ 24 := hvok.1.2
    rcases i32_or (v := w) 2 (by decide) with ⟨k, hk, rfl⟩ | hw
    · by_cases hr0 : pfA (aR s n).length = 0
      · obtain ⟨hN, hL0⟩ := pfA_0 hr0
        obtain ⟨y, hy⟩ := pk_ex hW hn6 hL0
        rcases i32_or (v := i) (aSz s n + 1) (by omega) with ⟨j, hj, rfl⟩ | hi
        · exact ⟨s, lN (if k = 0 then (aT s n y j).1 else (aT s n y j).2), hW, (fun l D aa b0 h X Y rl ST ha hI => pl_b (by decide) (cM_time (o := 0) ha hW hI hn hk hN hL0 hy (by omega))), (fun l D aa b0 h F G A B ha hI => pr_c (by decide) (tM_time (o := 169) ha hW hI hn hk hN hL0 hy (by omega)))⟩
        · exact ⟨s, -1, hW, (fun l D aa b0 h X Y rl ST ha hI => pl_b (by decide) (cM_timeI (o := 0) ha hW hI hn hk hN hL0 hy hi)), (fun l D aa b0 h F G A B ha hI => pr_c (by decide) (tM_timeI (o := 169) ha hW hI hn hk hN hL0 hy hi))⟩
      · exact ⟨s, (pfA (aR s n).length).toInt64, hW, (fun l D aa b0 h X Y rl ST ha hI => pl_b (by decide) (cM_timeR (o := 0) ha hW hI hn hk hr0)), (fun l D aa b0 h F G A B ha hI => pr_c (by decide) (tM_timeR (o := 169) ha hW hI hn hk hr0))⟩
    · exact ⟨s, -2, hW, (fun l D aa b0 h X Y rl ST ha hI => pl_a ha hI (by decide) (cM_timeB (o := 0) ha hW hI hn hw)), (fun l D aa b0 h F G A B ha hI => pr_a ha hI (by decide) (tM_timeB (o := 169) ha hW hI hn hw))⟩
  · exact ⟨s, -2, hW, (fun l D aa b0 h X Y rl ST ha hI => pl_a ha hI (by decide) (cM_timeN (o := 0) ha hW hI hv)), (fun l D aa b0 h F G A B ha hI => pr_a ha hI (by decide) (tM_timeN (o := 169) ha hW hI hv))⟩
theorem J_at {s : aS} (hW : WF s) (v u d : Int32) : JI s yX11_at cX11_at 7 yX12_at cX12_at 8 [.int v, .int u, .int d] := by
  have hv31 : aNv s < 2 ^ 31 := by have := hW.1.1; omega
  rcases i32_or (v := v) (aNv s) hv31 with ⟨n, hn, rfl⟩ | hv
  · have hn6 : n < 6 := by have := hW.1.1; omega
    have hvok := hW.2.1 n hn6
    have hs24 : aSz s n ≤ 24 := hvok.1.2
    rcases ii_n u with hu | ⟨a, ha, rfl⟩
    · exact JI.mk1 (s) (-2) hW (fun l D aa b0 h X Y rl ST ha hI => pc_a ha hI (by decide) (cM_atB (o := 0) ha hW hI hn (Or.inl hu))) (fun l D aa b0 h F G A B ha hI => pr_a ha hI (by decide) (tM_atB (o := 169) ha hW hI hn (Or.inl hu)))
    · by_cases hd : d < nI 1
      · exact JI.mk1 (s) (-2) hW (fun l D aa b0 h X Y rl ST ha hI => pc_a ha hI (by decide) (cM_atB (o := 0) ha hW hI hn (Or.inr hd))) (fun l D aa b0 h F G A B ha hI => pr_a ha hI (by decide) (tM_atB (o := 169) ha hW hI hn (Or.inr hd)))
      · have e1 : (nI 1).toInt = 1 := by decide
        have hd1 : ¬ d.toInt < 1 := fun z => hd (ii_lt.mpr (by rw [e1]; exact z))
        rcases ii_n d with hd0 | ⟨k, hk, rfl⟩
        · have e0 : (0 : Int32).toInt = 0 := by decide
          have := ii_lt.mp hd0
          omega
        · rw [nI_toInt hk] at hd1
          have hk0 : 0 < k ∧ k < 2 ^ 31 := ⟨by omega, hk⟩
          by_cases hr0 : pfA (aR s n).length = 0
          · obtain ⟨hN, hL0⟩ := pfA_0 hr0
            obtain ⟨y, hy⟩ := pk_ex hW hn6 hL0
            exact JI.mk1 (s) (atS (aT s n y) a k (aSz s n) 0) hW (fun l D aa b0 h X Y rl ST hx hI => pc_b (by decide) (cM_at (o := 0) hx hW hI hn ha hk0 hN hL0 hy)) (fun l D aa b0 h F G A B hx hI => pr_c (by decide) (tM_at (o := 169) hx hW hI hn ha hk0 hN hL0 hy))
          · exact JI.mk1 (s) (pfA (aR s n).length) hW (fun l D aa b0 h X Y rl ST hx hI => pc_b (by decide) (cM_atR (o := 0) hx hW hI hn ha hk0 hr0)) (fun l D aa b0 h F G A B hx hI => pr_c (by decide) (tM_atR (o := 169) hx hW hI hn ha hk0 hr0))
  · exact JI.mk1 (s) (-2) hW (fun l D aa b0 h X Y rl ST ha hI => pc_a ha hI (by decide) (cM_atN (o := 0) ha hW hI hv)) (fun l D aa b0 h F G A B ha hI => pr_a ha hI (by decide) (tM_atN (o := 169) ha hW hI hv))
theorem J_together {s : aS} (hW : WF s)  : JI s yX11_together cX11_together 7 yX12_together cX12_together 9 [] := by
  exact JI.mk1 (s) (tgA s) hW (fun l D aa b0 h X Y rl ST ha hI => pc_b (by decide) (cM_together (o := 0) ha hW hI )) (fun l D aa b0 h F G A B ha hI => pr_c (by decide) (tM_together (o := 169) ha hW hI ))
theorem J_meet {s : aS} (hW : WF s) (v u w : Int32) : JI s yX11_meet cX11_meet 11 yX12_meet cX12_meet 12 [.int v, .int u, .int w] := by
  have hv31 : aNv s < 2 ^ 31 := by have := hW.1.1; omega
  rcases i32_or (v := v) (aNv s) hv31 with ⟨n, hn, rfl⟩ | hv
  · rcases i32_or (v := u) (aNv s) hv31 with ⟨p, hp, rfl⟩ | hu
    · rcases i32_or (v := w) 2 (by decide) with ⟨k, hk, rfl⟩ | hw
      · by_cases hm : 1000 < (aR s n).length ∨ 1000 < (aR s p).length
        · exact JI.mk1 (s) (-4) hW (fun l D aa b0 h X Y rl ST ha hI => pc_b (by decide) (cM_meetM (o := 0) ha hW hI hn hp hk hm)) (fun l D aa b0 h F G A B ha hI => pr_d (by decide) (tM_meetM (o := 169) ha hW hI hn hp hk hm))
        · by_cases h0 : pfA (aR s n).length ≠ 0 ∨ pfA (aR s p).length ≠ 0
          · exact JI.mk1 (s) (-1) hW (fun l D aa b0 h X Y rl ST ha hI => pc_b (by decide) (cM_meetN (o := 0) ha hW hI hn hp hk (by omega) (by omega) h0)) (fun l D aa b0 h F G A B ha hI => pr_d (by decide) (tM_meetN (o := 169) ha hW hI hn hp hk (by omega) (by omega) h0))
          · have h1 : pfA (aR s n).length = 0 := Classical.byContradiction (fun z => h0 (Or.inl z))
            have h2 : pfA (aR s p).length = 0 := Classical.byContradiction (fun z => h0 (Or.inr z))
            have hn6 : n < 6 := by have := hW.1.1; omega
            have hp6 : p < 6 := by have := hW.1.1; omega
            obtain ⟨hN, hL0⟩ := pfA_0 h1
            obtain ⟨hNP, hL0P⟩ := pfA_0 h2
            obtain ⟨y, hy⟩ := pk_ex hW hn6 hL0
            obtain ⟨yP, hyP⟩ := pk_ex hW hp6 hL0P
            exact JI.mk1 (s) (nI (mtI s n p y yP k (aSz s p) (aSz s n))) hW (fun l D aa b0 h X Y rl ST ha hI => pc_b (by decide) (cM_meet (o := 0) ha hW hI hn hp hk hN hL0 hy hNP hL0P hyP)) (fun l D aa b0 h F G A B ha hI => pr_d (by decide) (tM_meet (o := 169) ha hW hI hn hp hk hN hL0 hy hNP hL0P hyP))
      · exact JI.mk1 (s) (-2) hW (fun l D aa b0 h X Y rl ST ha hI => pc_a ha hI (by decide) (cM_meetB4 (o := 0) ha hW hI hn hp hw)) (fun l D aa b0 h F G A B ha hI => pr_a ha hI (by decide) (tM_meetB4 (o := 169) ha hW hI hn hp hw))
    · exact JI.mk1 (s) (-2) hW (fun l D aa b0 h X Y rl ST ha hI => pc_a ha hI (by decide) (cM_meetB3 (o := 0) ha hW hI hn hu)) (fun l D aa b0 h F G A B ha hI => pr_a ha hI (by decide) (tM_meetB3 (o := 169) ha hW hI hn hu))
  · rcases i32_or (v := u) (aNv s) hv31 with ⟨p, hp, rfl⟩ | hu
    · exact JI.mk1 (s) (-2) hW (fun l D aa b0 h X Y rl ST ha hI => pc_a ha hI (by decide) (cM_meetB2 (o := 0) ha hW hI hv hp)) (fun l D aa b0 h F G A B ha hI => pr_a ha hI (by decide) (tM_meetB1 (o := 169) ha hW hI hv))
    · exact JI.mk1 (s) (-2) hW (fun l D aa b0 h X Y rl ST ha hI => pc_a ha hI (by decide) (cM_meetB1 (o := 0) ha hW hI hv hu)) (fun l D aa b0 h F G A B ha hI => pr_a ha hI (by decide) (tM_meetB1 (o := 169) ha hW hI hv))
theorem J_canon {s : aS} (hW : WF s) (v how bh hg : Int32) : JI s yX11_canon cX11_canon 8 yX12_canon cX12_canon 20 [.int v, .int how, .int bh, .int hg] := by
  have hv31 : aNv s < 2 ^ 31 := by have := hW.1.1; omega
  rcases i32_or (v := v) (aNv s) hv31 with ⟨n, hn, rfl⟩ | hv
  · have hn6 : n < 6 := by have := hW.1.1; omega
    have hvok := hW.2.1 n hn6
    have hs24 : aSz s n ≤ 24 := hvok.1.2
    by_cases h1 : (0 : Int) ≤ how.toInt ∧ how.toInt ≤ 7
    · by_cases h2 : (0 : Int) ≤ bh.toInt ∧ bh.toInt ≤ 100000
      · by_cases h3 : (-40 : Int) ≤ hg.toInt ∧ hg.toInt ≤ 40
        · have h3' := ii_40.mpr h3
          obtain ⟨a, rfl, -, ha2⟩ := ii_r (lo := 0) (hi := 7) h1
          obtain ⟨k, rfl, -, hk2⟩ := ii_r (lo := 0) (hi := 100000) h2
          have ha8 : a < 8 := by omega
          by_cases hr0 : pfA (aR s n).length = 0
          · obtain ⟨hN, hL0⟩ := pfA_0 hr0
            obtain ⟨y, hy⟩ := pk_ex hW hn6 hL0
            by_cases h6 : aNf s = 6
            · exact JI.mk1 (s) (-3) hW (fun l D aa b0 h X Y rl ST ha hI => pc_b (by decide) (cM_canonF (o := 0) ha hW hI hn ha8 hk2 h3' hN hL0 hy h6)) (fun l D aa b0 h F G A B ha hI => pr_d (by decide) (tM_canonF (o := 169) ha hW hI hn ha8 hk2 h3' hN hL0 hy h6))
            · have h6 : aNf s < 6 := by have := hW.1.2.1; omega
              have hfl : (aFw s n y a k hg.toInt).length ≤ 24 := Nat.le_trans (fwk_ hk2 (a_sz hW hn6 hy) (aSz s n) (Nat.le_refl _)).1 hs24
              exact JI.mk1 (aCanon s (aFw s n y a k hg.toInt)) (nI (aNf s)) (WF_canon hW h6 hfl) (fun l D aa b0 h X Y rl ST ha hI => pc_b (by decide) (cM_canon (o := 0) ha hW hI hn ha8 hk2 h3' hN hL0 hy h6)) (fun l D aa b0 h F G A B ha hI => pr_d (by decide) (tM_canon (o := 169) ha hW hI hn ha8 hk2 h3' hN hL0 hy h6))
          · exact JI.mk1 (s) (pfA (aR s n).length) hW (fun l D aa b0 h X Y rl ST ha hI => pc_b (by decide) (cM_canonR (o := 0) ha hW hI hn ha8 hk2 h3' hr0)) (fun l D aa b0 h F G A B ha hI => pr_d (by decide) (tM_canonR (o := 169) ha hW hI hn ha8 hk2 h3' hr0))
        · exact JI.mk1 (s) (-2) hW (fun l D aa b0 h X Y rl ST ha hI => pc_a ha hI (by decide) (cM_canonB (o := 0) ha hW hI hn (fun z => h3 (ii_40.mp ⟨z.2.2.2.2.1, z.2.2.2.2.2⟩)))) (fun l D aa b0 h F G A B ha hI => pr_a ha hI (by decide) (tM_canonB3 (o := 169) ha hW hI hn h1 h2 h3))
      · exact JI.mk1 (s) (-2) hW (fun l D aa b0 h X Y rl ST ha hI => pc_a ha hI (by decide) (cM_canonB (o := 0) ha hW hI hn (fun z => h2 ((ii_0n (n := 100000) (by decide)).mp ⟨z.2.2.1, z.2.2.2.1⟩)))) (fun l D aa b0 h F G A B ha hI => pr_a ha hI (by decide) (tM_canonB2 (o := 169) ha hW hI hn h1 h2))
    · exact JI.mk1 (s) (-2) hW (fun l D aa b0 h X Y rl ST ha hI => pc_a ha hI (by decide) (cM_canonB (o := 0) ha hW hI hn (fun z => h1 ((ii_0n (n := 7) (by decide)).mp ⟨z.1, z.2.1⟩)))) (fun l D aa b0 h F G A B ha hI => pr_a ha hI (by decide) (tM_canonB1 (o := 169) ha hW hI hn h1))
  · exact JI.mk1 (s) (-2) hW (fun l D aa b0 h X Y rl ST ha hI => pc_a ha hI (by decide) (cM_canonN (o := 0) ha hW hI hv)) (fun l D aa b0 h F G A B ha hI => pr_a ha hI (by decide) (tM_canonN (o := 169) ha hW hI hv))
theorem J_follower {s : aS} (hW : WF s) (f i w : Int32) : JL s yX11_follower cX11_follower 5 yX12_follower cX12_follower 4 [.int f, .int i, .int w] := by
  have hf31 : aNf s < 2 ^ 31 := by have := hW.1.2.1; omega
  rcases i32_or (v := f) (aNf s) hf31 with ⟨a, ha0, rfl⟩ | hf
  · have ha6 : a < 6 := by have := hW.1.2.1; omega
    have hl24 := (hW.2.2.1 a ha6).1
    rcases i32_or (v := w) 5 (by decide) with ⟨k, hk, rfl⟩ | hw
    · rcases i32_or (v := i) (aFl s a).length (by omega) with ⟨j, hj, rfl⟩ | hi
      · obtain ⟨e, he⟩ : ∃ e, (aFl s a)[j]? = some e := ⟨_, List.getElem?_eq_getElem hj⟩
        exact ⟨s, feA e k, hW, (fun l D aa b0 h X Y rl ST ha hI => pl_a ha hI (by decide) (cM_follower (o := 0) ha hW hI ha0 hk he)), (fun l D aa b0 h F G A B ha hI => pr_a ha hI (by decide) (tM_follower (o := 169) ha hW hI ha0 hk he))⟩
      · exact ⟨s, -1, hW, (fun l D aa b0 h X Y rl ST ha hI => pl_a ha hI (by decide) (cM_followerI (o := 0) ha hW hI ha0 hk hi)), (fun l D aa b0 h F G A B ha hI => pr_a ha hI (by decide) (tM_followerI (o := 169) ha hW hI ha0 hk hi))⟩
    · exact ⟨s, -2, hW, (fun l D aa b0 h X Y rl ST ha hI => pl_a ha hI (by decide) (cM_followerB (o := 0) ha hW hI (Or.inr hw))), (fun l D aa b0 h F G A B ha hI => pr_a ha hI (by decide) (tM_followerW (o := 169) ha hW hI (nI_inb ha0 hf31) hw))⟩
  · exact ⟨s, -2, hW, (fun l D aa b0 h X Y rl ST ha hI => pl_a ha hI (by decide) (cM_followerB (o := 0) ha hW hI (Or.inl hf))), (fun l D aa b0 h F G A B ha hI => pr_a ha hI (by decide) (tM_followerF (o := 169) ha hW hI hf))⟩
theorem J_write {s : aS} (hW : WF s) (x1 x2 x3 x4 x5 : Int32) : JI s yX11_write cX11_write 7 yX12_write cX12_write 10 [.int x1, .int x2, .int x3, .int x4, .int x5] := by
  by_cases hb : wArg x1 x2 x3 x4 x5
  · obtain ⟨h1, h2, h3, h4, h5⟩ := hb
    obtain ⟨sg, rfl, -, hs⟩ := ii_r (lo := 0) (hi := 15) h1
    obtain ⟨n, rfl, hn1, hn2⟩ := ii_r (lo := 1) (hi := 3) h2
    have hs : sg < 16 := by omega
    have e1 : (nI 1).toInt = 1 := by decide
    have e2 : (nI 2).toInt = 2 := by decide
    have g4 : n ≤ 1 ∨ nI 1 ≤ x4 := h4.imp (fun z => by have := ii_le.mp z; rw [nI_toInt (by omega), e1] at this; omega) id
    have g5 : n ≤ 2 ∨ nI 1 ≤ x5 := h5.imp (fun z => by have := ii_le.mp z; rw [nI_toInt (by omega), e2] at this; omega) id
    exact JI.mk1 (aWr s (wRes sg n (wv3 x3 x4 x5))) (wAn (wRes sg n (wv3 x3 x4 x5))) (WF_wr hW hn2) (fun l D aa b0 h X Y rl ST ha hI => pc_b (by decide) (cM_write (o := 0) ha hW hI hs ⟨hn1, hn2⟩ ⟨h3, g4, g5⟩)) (fun l D aa b0 h F G A B ha hI => pr_b (by decide) (tM_write (o := 169) ha hW hI hs ⟨hn1, hn2⟩ ⟨h3, g4, g5⟩))
  · exact JI.mk1 (s) (-2) hW (fun l D aa b0 h X Y rl ST ha hI => pc_a ha hI (by decide) (cM_writeN (o := 0) ha hb)) (fun l D aa b0 h F G A B ha hI => pr_a ha hI (by decide) (tM_writeN (o := 169) ha hb))
theorem J_written {s : aS} (hW : WF s) (i : Int32) : JI s yX11_written cX11_written 2 yX12_written cX12_written 2 [.int i] := by
  rcases i32_or (v := i) (aNw s) (by have := hW.1.2.2; omega) with ⟨k, hk, rfl⟩ | hi
  · exact JI.mk1 (s) (nI (aWk s k)) hW (fun l D aa b0 h X Y rl ST ha hI => pc_a ha hI (by decide) (cM_written (o := 0) ha hW hI hk)) (fun l D aa b0 h F G A B ha hI => pr_a ha hI (by decide) (tM_written (o := 169) ha hW hI hk))
  · exact JI.mk1 (s) (-1) hW (fun l D aa b0 h X Y rl ST ha hI => pc_a ha hI (by decide) (cM_writtenN (o := 0) ha hW hI hi)) (fun l D aa b0 h F G A B ha hI => pr_a ha hI (by decide) (tM_writtenN (o := 169) ha hW hI hi))
theorem J_count {s : aS} (hW : WF s) (w : Int32) : JI s yX11_count cX11_count 2 yX12_count cX12_count 4 [.int w] := by
  rcases i32_or (v := w) 3 (by decide) with ⟨k, hk, rfl⟩ | hw
  · exact JI.mk1 (s) (nI (cntA s k)) hW (fun l D aa b0 h X Y rl ST ha hI => pc_a ha hI (by decide) (cM_count (o := 0) ha hW hI hk)) (fun l D aa b0 h F G A B ha hI => pr_a ha hI (by decide) (tM_count (o := 169) ha hW hI hk))
  · exact JI.mk1 (s) (-2) hW (fun l D aa b0 h X Y rl ST ha hI => pc_a ha hI (by decide) (cM_countO (o := 0) ha hW hI hw)) (fun l D aa b0 h F G A B ha hI => pr_a ha hI (by decide) (tM_countO (o := 169) ha hW hI hw))
