/-! the law's own steps -/
section LWK
variable {p : Program} {l : Launch} {e : Env} {s : State} {m : MethodId} {below : List Frame} {meth : Method} {c : Code} {b Ln : Nat} {xs : Nat → Int32} {D : va_G} {aa : Nat → ClassId} {H : Heap} {locs : List Loc} {ls : Array Slot} {cells slots : Nat} {QW : State → Prop} {rest : List Value} {pc : Nat} {h : mm_H}
/-- what holds all the way -/
def lw_X (l : Launch) (D : va_G) (aa : Nat → ClassId) (p : Program) (s : State) (m : MethodId) (meth : Method) (c : Code) (b Ln : Nat) (xs : Nat → Int32) : Prop := lw_At p s m meth c b Ln xs ∧ va_K D vwCl (zz_K l D aa s.heap.size).2.2.2.1 s ∧ mm_Nw s ∧ (∀ w ∈ wsL_law, w.before #[Value.ref b] s = true) ∧ Ln ≤ 3072
theorem lw_out (C : lw_X l D aa p s m meth c b Ln xs) : ¬ mm_A (zz_K l D aa s.heap.size) b := fun z => by
  have h1 : s.heap.size ≤ b := z
  have h2 := C.1.2.2.2.2.2.2.2.1
  omega
/-- the script's number i + k -/
theorem lw_ld {i k : Nat} {k' : Int} (C : lw_X l D aa p s m meth c b Ln xs) (hS : va_S (mm_A (zz_K l D aa s.heap.size)) s.heap H locs) (h0 : ls[0]? = some (.val (.ref b))) (h3 : ls[3]? = some (.val (.int (nI i)))) (hik : i + k < Ln) (d1 : decode code pc = .ok (.aload_n 0, 1)) (d2 : decode code (pc + 1) = .ok (.iload_n 3, 1)) (d3 : decode code (pc + 2) = .ok (.iconst k', 1)) (hk : Int32.ofInt k' = nI k) (d4 : decode code (pc + 3) = .ok (.iadd, 1)) (d5 : decode code (pc + 4) = .ok (.iaload, 1)) (kk : W p l e room_1 s m #[Value.ref b] below meth c H locs cells slots QW (F0 m (pc + 5) ls (.int (xs (i + k)) :: rest))) : W p l e room_1 s m #[Value.ref b] below meth c H locs cells slots QW (F0 m pc ls rest) := by
  have hbA := lw_out C
  obtain ⟨C0, hK, hN, hts, hL⟩ := C
  refine lv_aload_n C0.1 C0.2.1 d1 rfl h0 ?_
  refine lv_iload_n C0.1 C0.2.1 d2 rfl h3 ?_
  refine lv_iconst C0.1 C0.2.1 d3 hk ?_
  refine lv_iadd C0.1 C0.2.1 d4 ?_
  have e : nI i + nI k = nI (i + k) := (Int32.ofNat_add i k).symm
  rw [e]
  refine va_sld C0.1 C0.2.1 C0.2.2.2.2.2.2.1 C0.2.2.2.2.2.2.2.1 hbA hS (i := nI (i + k)) (vp_in_nI hik (by omega)) d5 ?_
  rw [nI_clamp (by omega)]
  exact kk
/-- the script's number i -/
theorem lw_ld0 {i : Nat} (C : lw_X l D aa p s m meth c b Ln xs) (hS : va_S (mm_A (zz_K l D aa s.heap.size)) s.heap H locs) (h0 : ls[0]? = some (.val (.ref b))) (h3 : ls[3]? = some (.val (.int (nI i)))) (hik : i < Ln) (d1 : decode code pc = .ok (.aload_n 0, 1)) (d2 : decode code (pc + 1) = .ok (.iload_n 3, 1)) (d5 : decode code (pc + 2) = .ok (.iaload, 1)) (kk : W p l e room_1 s m #[Value.ref b] below meth c H locs cells slots QW (F0 m (pc + 3) ls (.int (xs i) :: rest))) : W p l e room_1 s m #[Value.ref b] below meth c H locs cells slots QW (F0 m pc ls rest) := by
  have hbA := lw_out C
  obtain ⟨C0, hK, hN, hts, hL⟩ := C
  refine lv_aload_n C0.1 C0.2.1 d1 rfl h0 ?_
  refine lv_iload_n C0.1 C0.2.1 d2 rfl h3 ?_
  refine va_sld C0.1 C0.2.1 C0.2.2.2.2.2.2.1 C0.2.2.2.2.2.2.2.1 hbA hS (i := nI i) (vp_in_nI hik (by omega)) d5 ?_
  rw [nI_clamp (by omega)]
  exact kk
/-- a call -/
theorem lw_callV {idx n o ci N : Nat} {T : u_T} {fs : List Value} {y2 : MethodName} {cc2 : ByteArray} {nL2 : Nat} {rt2 : Option FieldType} {As : List Value} {Q1 : Option Value → mm_H → Prop} {st0 : List Value} (C : lw_X l D aa p s m meth c b Ln xs) (hd : decode code pc = .ok (.invokevirtual idx, 3)) (hC : mm_C (zz_K l D aa s.heap.size) RL idx y2 cc2 nL2 rt2 n (.instanceMethod y2)) (hsel : Cond.selects y2.cls y2 y2 ∈ wsL_law) (hcl : vwCl[ci]? = some (y2.cls, T, N)) (ho : h.2 o = some (.inr (ci, fs))) (hst : st0 = As.reverse ++ .ref o :: rest) (hn : As.length = n) (hcat : (rest.map fun v => v.category).sum ≤ 8) (hlen : (lg_sl (mm_S (zz_K l D aa s.heap.size) (.ref o :: As))).length ≤ nL2) (hnl : nL2 ≤ 60)
    (hV : mm_V (zz_K l D aa s.heap.size) 12 y2 cc2 nL2 rt2 0 (lv_args 0 (.ref o :: As)) [] h 0 0 Q1) (hc : cells ≤ 600000) (hs : slots ≤ 7302250) (hR : mm_R (zz_K l D aa s.heap.size) h H) (hS : va_S (mm_A (zz_K l D aa s.heap.size)) s.heap H locs) (hl : ls.size = 4)
    (kk : ∀ (r : Option Value) (h1 : mm_H) (H1 : Heap) (locs1 : List Loc), Q1 r h1 → mm_R (zz_K l D aa s.heap.size) h1 H1 → va_S (mm_A (zz_K l D aa s.heap.size)) s.heap H1 locs1 → W p l e room_1 s m #[Value.ref b] below meth c H1 locs1 cells slots QW (F0 m (pc + 3) ls (mm_S (zz_K l D aa s.heap.size) (r.toList ++ rest)))) : W p l e room_1 s m #[Value.ref b] below meth c H locs cells slots QW (F0 m pc ls (mm_S (zz_K l D aa s.heap.size) st0)) := by
  obtain ⟨C0, hK, hNw, hts, hL⟩ := C
  obtain ⟨c1, c2, c4, c5, c6, c7⟩ := hC
  have hown : s.vm.findClass RL = some m.cls := C0.2.2.2.2.1
  have hM := mm_met (As := .ref o :: As) c1 hlen hV
  have hP : va_P D vwCl [(s.heap.size + o, .inr (ci, fs.map (mm_sh s.heap.size)))] H := fun k q hk => by
    cases k with
    | zero => cases hk; exact hR.2 o _ ho
    | succ k => simp at hk
  refine mm_goon (K := zz_K l D aa s.heap.size) (va_runV (C := y2.cls) (b := s.heap.size + o) (As := mm_S (zz_K l D aa s.heap.size) As) (rest := mm_S (zz_K l D aa s.heap.size) rest) ⟨C0.1, C0.2.1, C0.2.2.2.1, hown, hts⟩ hM ⟨callB_of n hts (mm_good (K := zz_K l D aa s.heap.size) zz_G (fun w hw => by
    rcases List.mem_cons.mp hw with h | h
    · rw [h]; exact c7
    · exact h)) rfl rfl rfl (hts _ c6) (hts _ c4) c2 ⟨by decide, by show 8 + (nL2 + 11) + 39 * 12 ≤ 570; omega⟩, hts _ c5, hts _ hsel⟩ ⟨mm_blind, va_recv hK hP (ci := ci) (q0 := 0) hcl rfl, fun U hU hW => ⟨rfl, by rw [hU]; exact hR, va_K.moved hW.alike hK, mm_Nw_w hW hNw⟩⟩ rfl (by unfold mm_S; rw [List.length_map]; exact hn) hl (by show mm_S _ st0 = _; rw [hst, mm_S_app, mm_S_rev]; rfl) (lv_room (by rw [mm_catS]; exact hcat)) hd ⟨by show cells + 0 ≤ 600000; omega, by show slots + 0 ≤ 7302250; omega⟩) hS (fun r h1 H1 locs1 hq hR1 hS1 => ?_)
  rw [mm_opt]
  exact kk r h1 H1 locs1 hq hR1 hS1
/-- a constructor's call -/
theorem lw_callI {idx o d2 k1 s1 : Nat} {y2 : MethodName} {cc2 : ByteArray} {nL2 : Nat} {Q1 : Option Value → mm_H → Prop} (C : lw_X l D aa p s m meth c b Ln xs) (hd : decode code pc = .ok (.invokespecial idx, 3)) (hC : mm_C (zz_K l D aa s.heap.size) RL idx y2 cc2 nL2 none 0 (.instanceMethod y2)) (hy1 : y2.name = "<init>") (hcat : (rest.map fun v => v.category).sum ≤ 8) (hlen : 1 ≤ nL2) (hnl : nL2 ≤ 60) (hd2 : d2 ≤ 12)
    (hV : mm_V (zz_K l D aa s.heap.size) d2 y2 cc2 nL2 none 0 [(0, .ref o)] [] h k1 s1 Q1) (hc : cells + k1 ≤ 600000) (hs : slots + s1 ≤ 7302250) (hR : mm_R (zz_K l D aa s.heap.size) h H) (hS : va_S (mm_A (zz_K l D aa s.heap.size)) s.heap H locs) (hl : ls.size = 4)
    (kk : ∀ (r : Option Value) (h1 : mm_H) (H1 : Heap) (locs1 : List Loc), Q1 r h1 → mm_R (zz_K l D aa s.heap.size) h1 H1 → va_S (mm_A (zz_K l D aa s.heap.size)) s.heap H1 locs1 → W p l e room_1 s m #[Value.ref b] below meth c H1 locs1 (cells + k1) (slots + s1) QW (F0 m (pc + 3) ls (mm_S (zz_K l D aa s.heap.size) (r.toList ++ rest)))) : W p l e room_1 s m #[Value.ref b] below meth c H locs cells slots QW (F0 m pc ls (mm_S (zz_K l D aa s.heap.size) (.ref o :: rest))) := by
  obtain ⟨C0, hK, hNw, hts, hL⟩ := C
  obtain ⟨c1, c2, c4, c5, c6, c7⟩ := hC
  have hown : s.vm.findClass RL = some m.cls := C0.2.2.2.2.1
  have hM := mm_met (As := [.ref o]) c1 hlen hV
  refine mm_goon (K := zz_K l D aa s.heap.size) (va_runI (b := s.heap.size + o) (As := mm_S (zz_K l D aa s.heap.size) []) (rest := mm_S (zz_K l D aa s.heap.size) rest) ⟨C0.1, C0.2.1, C0.2.2.2.1, hown, hts⟩ hM ⟨callB_of 0 hts (mm_good (K := zz_K l D aa s.heap.size) zz_G (fun w hw => by
    rcases List.mem_cons.mp hw with h | h
    · rw [h]; exact c7
    · exact h)) rfl rfl rfl (hts _ c6) (hts _ c4) c2 ⟨by show d2 + 1 ≤ 13; omega, by show 8 + (nL2 + 11) + 39 * d2 ≤ 570; omega⟩, hy1, hts _ c5⟩ ⟨mm_blind, fun U hU hW => ⟨rfl, by rw [hU]; exact hR, va_K.moved hW.alike hK, mm_Nw_w hW hNw⟩⟩ rfl rfl hl rfl (lv_room (by rw [mm_catS]; exact hcat)) hd ⟨hc, hs⟩) hS (fun r h1 H1 locs1 hq hR1 hS1 => ?_)
  rw [mm_opt]
  exact kk r h1 H1 locs1 hq hR1 hS1
/-- a new object -/
theorem lw_newo {idx ci N : Nat} {Cn : String} {T : u_T} {fs : List Value} (ty : Nat → FieldType) (C : lw_X l D aa p s m meth c b Ln xs) (hd : decode code pc = .ok (.new idx, 3)) (hcl : vwCl[ci]? = some (Cn, T, N)) (hin : ∀ w ∈ u_ws Cn T N, w ∈ wsL_law) (hty : ∀ k, k < N → parseFieldDescriptor (T k).2.2.1 = some (ty k)) (h1 : Cond.classLink RL idx Cn ∈ wsL_law) (h2 : Cond.instantiable Cn N ∈ wsL_law) (h3 : Cond.initialized Cn ∈ wsL_law) (hfs : ∀ j, j < N → defaultValue (ty j) = vp_V fs j) (hnr : fs.map (mm_sh s.heap.size) = fs) (hc : cells + 1 ≤ 600000) (hs : slots + N ≤ 7302250) (hR : mm_R (zz_K l D aa s.heap.size) h H) (hS : va_S (mm_A (zz_K l D aa s.heap.size)) s.heap H locs)
    (kk : ∀ H1 : Heap, mm_R (zz_K l D aa s.heap.size) (mm_new h (.inr (ci, fs))) H1 → va_S (mm_A (zz_K l D aa s.heap.size)) s.heap H1 locs → W p l e room_1 s m #[Value.ref b] below meth c H1 locs (cells + 1) (slots + N) QW (F0 m (pc + 3) ls (.ref (s.heap.size + h.1) :: rest))) : W p l e room_1 s m #[Value.ref b] below meth c H locs cells slots QW (F0 m pc ls rest) := by
  obtain ⟨C0, hK, hNw, hts, hL⟩ := C
  have hown : s.vm.findClass RL = some m.cls := C0.2.2.2.2.1
  have hKn := hK.1 ci _ hcl
  refine W.newcK C0.1 C0.2.1 hown (hts _ h1) (hts _ h2) (hts _ h3) rfl hd hc hs hKn.2.1 rfl fun H1 kC hkC e1 z1 o1 => ?_
  have hsz : H.size = s.heap.size + h.1 := hR.1
  rw [hsz] at e1 ⊢
  refine kk H1 (hR.new (e := .inr (ci, fs)) ?_ z1 o1) ⟨Nat.le_trans hS.1 (by omega), fun x h1 h2 => (o1 x (Nat.lt_of_lt_of_le h1 hS.1)).trans (hS.2.1 x h1 h2), hS.2.2⟩
  show va_at D vwCl (s.heap.size + h.1, Sum.inr (ci, fs.map (mm_sh s.heap.size))) H1
  rw [hnr]
  exact ⟨_, hcl, (u_born ty hts hin hKn hkC e1 hty).to hfs⟩
/-- between two calls -/
def lw_inv (t : aS) (h : mm_H) : Prop := WF t ∧ ∃ (X : Nat → Nat → Int32) (Y : Nat → Nat → Int64) (rl : Option Nat) (ST : Nat → Bool) (F : Nat → Int32) (G : Nat → Int64) (A : Nat → Nat → Int32) (B : Nat → Nat → Int64), cm_at 0 X Y rl h ∧ CI t ST X Y rl ∧ rm_at 169 F G A B h ∧ RI t F A B
/-- from pc on, where i numbers of the script are done, the law comes to its end -/
def lw_go (p : Program) (l : Launch) (e : Env) (s : State) (m : MethodId) (below : List Frame) (meth : Method) (c : Code) (b : Nat) (D : va_G) (aa : Nat → ClassId) (pc i : Nat) : Prop := ∀ (t : aS) (h : mm_H) (H : Heap) (locs : List Loc) (ls : Array Slot), lw_inv t h → mm_R (zz_K l D aa s.heap.size) h H → va_S (mm_A (zz_K l D aa s.heap.size)) s.heap H locs → lv_has ls 4 [(0, .ref b), (1, .ref (s.heap.size + 0)), (2, .ref (s.heap.size + 169)), (3, .int (nI i))] → W p l e room_1 s m #[Value.ref b] below meth c H locs 600000 7302250 (lw_Z below #[Value.ref b] s) (F0 m pc ls [])
theorem rm_at_c {F : Nat → Int32} {G : Nat → Int64} {A : Nat → Nat → Int32} {B : Nat → Nat → Int64} {h1 : mm_H} (ha : rm_at 169 F G A B h) (hf : cm_fr 0 h h1) : rm_at 169 F G A B h1 := ⟨(hf.2 169 (Or.inr (by decide))).trans ha.1, fun k hk => (hf.2 (169 + rm_ps k) (Or.inr (by show 0 + 169 ≤ 169 + rm_ps k; omega))).trans (ha.2 k hk)⟩
theorem cm_at_r {X : Nat → Nat → Int32} {Y : Nat → Nat → Int64} {rl : Option Nat} {h1 : mm_H} (ha : cm_at 0 X Y rl h) (hf : rm_fr 169 h h1) : cm_at 0 X Y rl h1 := fun a hlt => (hf.2 (0 + a) (Or.inl (by have : a < 169 := hlt; omega))).trans (ha a hlt)
theorem cm_o0 {X : Nat → Nat → Int32} {Y : Nat → Nat → Int64} {rl : Option Nat} (ha : cm_at 0 X Y rl h) : h.2 0 = some (.inr (11, (List.range 8).map (cm_fv 0 (X 0) (Y 0) rl 0 11))) := cm_obj (a := 0) ha (by decide) rfl
/-- both calls of an int: what comes of them is the same -/
theorem lw_JI {idx idx2 n n1 n2 : Nat} {y1 y2 : MethodName} {c1 c2 : ByteArray} {As : List Value} {t : aS} (hJ : JI t y1 c1 n1 y2 c2 n2 As) : ∃ (t2 : aS) (Ph : Int32 → Prop), WF t2 ∧ jC t y1 c1 n1 (some .int) As (PCi t2 Ph) ∧ ∀ x, Ph x → jR t y2 c2 n2 (some .int) As (PRv t2 (.int x)) := hJ
end LWK
