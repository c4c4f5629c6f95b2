/-! how many: sums of offers -/
def sm_o (l : List sc_O) : Nat := (l.map (fun e => e.2.2.2.2)).sum
theorem sm_nil : sm_o [] = 0 := rfl
theorem sm_cons {e : sc_O} {l : List sc_O} : sm_o (e :: l) = e.2.2.2.2 + sm_o l := by unfold sm_o; rw [List.map_cons, List.sum_cons]
theorem sm_app {l m : List sc_O} : sm_o (l ++ m) = sm_o l + sm_o m := by unfold sm_o; rw [List.map_append, List.sum_append]
theorem sm_le {c : Nat} : ∀ (l : List sc_O), (∀ e ∈ l, e.2.2.2.2 ≤ c) → sm_o l ≤ c * l.length
  | [], _ => by rw [sm_nil]; exact Nat.zero_le _
  | e :: l, h => by
    rw [sm_cons, List.length_cons, Nat.mul_succ]
    have h1 := h e List.mem_cons_self
    have h2 := sm_le l (fun x hx => h x (List.mem_cons_of_mem _ hx))
    omega
theorem fm_len {α β : Type} {f : α → List β} {c : Nat} (h : ∀ x, (f x).length ≤ c) : ∀ l : List α, (l.flatMap f).length ≤ c * l.length
  | [] => by simp
  | x :: l => by
    rw [List.flatMap_cons, List.length_append, List.length_cons, Nat.mul_succ]
    have h1 := h x
    have h2 := fm_len h l
    omega
theorem sp_rg_len {a b : Nat} : (sp_rg a b).length = b - (a + 1) := by unfold sp_rg; rw [List.length_range']
def ct_th (w : ro_w) (k a b : Nat) : Nat := sm_o (sp_thirds w k a b)
theorem ct_th_le {w : ro_w} {k a b : Nat} (hb : b ≤ 24) : ct_th w k a b ≤ 576 := by
  have h1 : sm_o (sp_thirds w k a b) ≤ 1 * (sp_thirds w k a b).length := by
    apply sm_le
    intro e he
    unfold sp_thirds at he
    rw [List.mem_flatMap] at he
    obtain ⟨m, -, he⟩ := he
    rw [List.mem_map] at he
    obtain ⟨p, -, rfl⟩ := he
    show ro_third w k a m * ro_third w k m p * ro_third w k p b ≤ 1
    have := Nat.mul_le_mul (Nat.mul_le_mul (ro_third_le (w := w) (k := k) (a := a) (b := m)) (ro_third_le (w := w) (k := k) (a := m) (b := p))) (ro_third_le (w := w) (k := k) (a := p) (b := b))
    omega
  have h2 : (sp_thirds w k a b).length ≤ 24 * (sp_rg a b).length := by
    unfold sp_thirds
    apply fm_len
    intro m
    rw [List.length_map, sp_rg_len]
    omega
  rw [sp_rg_len] at h2
  unfold ct_th
  omega
def ct_gr (w : ro_w) (k a b : Nat) : Nat := ct_th w k a b + (if b = a + 1 then Bool.toNat (ro_plain w a k || ro_rest w a k) else 0) + (if b = a + 2 ∧ ro_plain w a k = true ∧ ro_dot w (a + 1) = true then 1 else 0)
theorem ct_gr_le {w : ro_w} {k a b : Nat} (hb : b ≤ 24) : ct_gr w k a b ≤ 578 := by
  have h1 := ct_th_le (w := w) (k := k) (a := a) hb
  have h2 : (if b = a + 1 then Bool.toNat (ro_plain w a k || ro_rest w a k) else 0) ≤ 1 := by
    split
    · exact Bool.toNat_le _
    · omega
  have h3 : (if b = a + 2 ∧ ro_plain w a k = true ∧ ro_dot w (a + 1) = true then 1 else 0) ≤ 1 := by split <;> omega
  unfold ct_gr
  omega
/-- of the kinds from k on, f of them -/
def ct_gs (w : ro_w) (a b : Nat) : Nat → Nat → Nat
  | 0, _ => 0
  | f + 1, k => ct_gr w k a b + ct_gs w a b f (k + 1)
def ct_it (w : ro_w) (g : Nat) (T : Nat → Nat) (a b : Nat) : Nat := min (tb_w T 0 g a b + tb_w T 1 g a b + ct_gs w a b g 0) 3000
