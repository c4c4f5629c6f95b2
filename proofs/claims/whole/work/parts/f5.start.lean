/-! the beginning -/
section LWS
theorem eo_dX12 : ∀ j, j < 54 → defaultValue (tyX12 j) = vp_V [.int 0, .null, .null, .null, .null, .null, .null, .null, .null, .null, .null, .null, .int 0, .int 0, .int 0, .int 0, .null, .null, .null, .null, .null, .int 0, .int 0, .int 0, .int 0, .int 0, .int 0, .int 0, .int 0, .null, .null, .null, .null, .null, .int 0, .null, .null, .null, .null, .null, .int 0, .int 0, .int 0, .null, .long 0, .long 0, .null, .null, .int 0, .null, .null, .null, .int 0, .null] j := by decide +kernel
def aS0 : aS := ((0, fun _ => 0, fun _ => 0, fun _ => 0, fun _ => 0, fun _ => 0), (fun _ => 0, fun _ => 0, fun _ => 0, fun _ => false, fun _ => 0, fun _ => 0), (0, fun _ => []), (0, fun _ => 0))
def rowB (b : Nat) : Bool := Nat.beq b 39 || (Nat.beq b 64 || (Nat.beq b 74 || (Nat.beq b 84 || (Nat.beq b 94 || (Nat.beq b 104 || Nat.beq b 114)))))
def voiB (b : Nat) : Bool := Nat.beq b 36 || (Nat.beq b 61 || (Nat.beq b 71 || (Nat.beq b 81 || (Nat.beq b 91 || (Nat.beq b 101 || Nat.beq b 111)))))
def ratB (b : Nat) : Bool := Nat.beq b 54 || (Nat.beq b 55 || (Nat.beq b 59 || (Nat.beq b 60 || (Nat.beq b 127 || (Nat.beq b 128 || (Nat.beq b 135 || (Nat.beq b 136 || (Nat.beq b 143 || (Nat.beq b 144 || (Nat.beq b 151 || (Nat.beq b 152 || (Nat.beq b 159 || (Nat.beq b 160 || (Nat.beq b 167 || Nat.beq b 168))))))))))))))
def iX (b i : Nat) : Int32 := cond (rowB b) (cond (Nat.beq i 7 || Nat.beq i 8) (nI 1) 0) (cond (voiB b) (cond (Nat.beq i 8) (nI 1) 0) 0)
def iY (b i : Nat) : Int64 := cond (ratB b) (cond (Nat.beq i 1) (lN 1) 0) 0
def iF (k : Nat) : Int32 := cond (Nat.beq k 42) (-1) 0
def iG (_ : Nat) : Int64 := 0
def iA (_ _ : Nat) : Int32 := 0
def iB (_ _ : Nat) : Int64 := 0
theorem eXX11_len : eXX11.length = 169 := by
  unfold eXX11
  simp only [List.length_cons, List.length_append, List.length_nil, eX_lenX5, eX_lenX10, eX_lenX8, eX_lenX9, eX_lenX2]
set_option maxRecDepth 100000 in
set_option maxHeartbeats 4000000 in
theorem eXX11_cm : eXX11 = (List.range 169).map (fun a => cm_e 0 (iX a) (iY a) none a) := by rfl
theorem i_cm {g : Nat → Option mm_E} : cm_at 0 iX iY none (hE 0 eXX11 g) := fun a ha => by
  rw [hE_at, eXX11_cm, List.getElem?_map, List.getElem?_range ha]
  rfl
theorem i_cm2 {g : Nat → Option mm_E} {es : List mm_E} : cm_at 0 iX iY none (hE 169 es (hE 0 eXX11 g).2) := fun a ha => by
  have h1 : (hE 169 es (hE 0 eXX11 g).2).2 (0 + a) = (hE 0 eXX11 g).2 (0 + a) := if_pos (by have : a < 169 := ha; omega)
  rw [h1]
  exact i_cm a ha
set_option maxRecDepth 100000 in
set_option maxHeartbeats 4000000 in
theorem i_rm1 : (eXX12 169)[0]? = some (.inr (rm_ci, rm_fs 169 iF iG)) := by rfl
set_option maxRecDepth 100000 in
set_option maxHeartbeats 4000000 in
theorem i_rm2 (k : Nat) (hk : k < 54) (h : rm_ia k = true) : (eXX12 169)[rm_ps k]? = some (rm_e1 iA iB k) := by
  rcases (show k = 0 ∨ k = 1 ∨ k = 2 ∨ k = 3 ∨ k = 4 ∨ k = 5 ∨ k = 6 ∨ k = 7 ∨ k = 8 ∨ k = 9 ∨ k = 10 ∨ k = 11 ∨ k = 12 ∨ k = 13 ∨ k = 14 ∨ k = 15 ∨ k = 16 ∨ k = 17 ∨ k = 18 ∨ k = 19 ∨ k = 20 ∨ k = 21 ∨ k = 22 ∨ k = 23 ∨ k = 24 ∨ k = 25 ∨ k = 26 ∨ k = 27 ∨ k = 28 ∨ k = 29 ∨ k = 30 ∨ k = 31 ∨ k = 32 ∨ k = 33 ∨ k = 34 ∨ k = 35 ∨ k = 36 ∨ k = 37 ∨ k = 38 ∨ k = 39 ∨ k = 40 ∨ k = 41 ∨ k = 42 ∨ k = 43 ∨ k = 44 ∨ k = 45 ∨ k = 46 ∨ k = 47 ∨ k = 48 ∨ k = 49 ∨ k = 50 ∨ k = 51 ∨ k = 52 ∨ k = 53 by omega) with rfl | rfl | rfl | rfl | rfl | rfl | rfl | rfl | rfl | rfl | rfl | rfl | rfl | rfl | rfl | rfl | rfl | rfl | rfl | rfl | rfl | rfl | rfl | rfl | rfl | rfl | rfl | rfl | rfl | rfl | rfl | rfl | rfl | rfl | rfl | rfl | rfl | rfl | rfl | rfl | rfl | rfl | rfl | rfl | rfl | rfl | rfl | rfl | rfl | rfl | rfl | rfl | rfl | rfl
  all_goals first | rfl | cases h
theorem i_rm {g : Nat → Option mm_E} : rm_at 169 iF iG iA iB (hE 169 (eXX12 169) g) := by
  refine ⟨?_, fun k hk => ?_⟩
  · have := hE_at (a := 169) (k := 0) (es := eXX12 169) (g := g)
    rw [Nat.add_zero] at this
    rw [this, i_rm1]
  · rw [hE_at, i_rm2 k (rm_ia_lt hk) hk]
theorem i_WF : WF aS0 := by
  refine ⟨⟨by decide, by decide, by decide⟩, fun v hv => ⟨⟨show (0 : Nat) < 16 by decide, show (0 : Nat) ≤ 24 by decide⟩, fun _ => ⟨rfl, rfl⟩, fun z => absurd z (Nat.not_lt_zero _), fun i hi => absurd hi (Nat.not_lt_zero _), rfl, fun q hq => ?_, Or.inl rfl⟩, fun f hf => ⟨show (0 : Nat) ≤ 24 by decide, fun _ => rfl⟩, fun i hi => show (0 : Nat) ≤ 7 by decide⟩
  have e : ro_dot (aW aS0 v) q = (decide (q < 0) && decide ((aW aS0 v).2.1 q = 3)) := rfl
  rw [e, decide_eq_false (Nat.not_lt_zero _)] at hq
  cases hq
theorem i_nil {α : Type} {i : Nat} {e : α} (h : ([] : List α)[i]? = some e) : False := by
  rw [List.getElem?_nil] at h
  cases h
theorem i_vcl (v : Nat) (hv : v < 6) : vcl aS0 iX v true := by
  rcases (show v = 0 ∨ v = 1 ∨ v = 2 ∨ v = 3 ∨ v = 4 ∨ v = 5 by omega) with rfl | rfl | rfl | rfl | rfl | rfl
  all_goals exact ⟨fun z => absurd z (Nat.not_lt_zero _), ⟨⟨by decide, by decide⟩, fun i hi => absurd hi (Nat.not_lt_zero _)⟩, ⟨⟨by decide, by decide⟩, fun i hi => absurd hi (Nat.not_lt_zero _)⟩, ⟨⟨by decide, by decide⟩, fun _ => rfl, fun z => by cases z⟩, fun _ => rfl⟩
theorem i_flw (f : Nat) (hf : f < 6) : flw_ iX iY (121 + 8 * f) (aFl aS0 f) := by
  refine ⟨?_, fun i e he => (i_nil he).elim⟩
  rcases (show f = 0 ∨ f = 1 ∨ f = 2 ∨ f = 3 ∨ f = 4 ∨ f = 5 by omega) with rfl | rfl | rfl | rfl | rfl | rfl
  all_goals decide
theorem i_CI : CI aS0 (fun _ => true) iX iY none := ⟨⟨by decide, by decide⟩, i_vcl, i_flw, ⟨by decide, fun i hi => by show (0 : Int32) = nI 0; decide⟩, ⟨by decide, 0, by decide, by decide⟩, fun v hv z => by cases z⟩
theorem i_RI : RI aS0 iF iA iB := by
  have z0 : (0 : Int32) = nI 0 := by decide
  have zi : (0 : Int32) = Int32.ofInt 0 := by decide
  refine ⟨⟨⟨by decide, by decide⟩, fun u hu => ⟨⟨z0, show (0 : Nat) < 16 by decide⟩, ⟨z0, show (0 : Nat) ≤ 24 by decide⟩, ⟨z0, show (0 : Nat) ≤ 1000 by decide⟩, ⟨z0, show (0 : Nat) ≤ 1000 by decide⟩, z0, show (0 : Nat) < 1001 by decide⟩⟩, fun j hj => ⟨⟨z0, show (0 : Nat) < 4 by decide⟩, ⟨z0, show (0 : Nat) < 7 by decide⟩, ⟨zi, show (-40 : Int) ≤ 0 by decide, show (0 : Int) ≤ 40 by decide⟩, z0, ⟨z0, show (0 : Nat) ≤ 1000 by decide⟩, z0, show (0 : Nat) ≤ 1000 by decide⟩, ⟨(0, fun _ => 0, fun _ => 0, fun _ => false), 0, 0, fun _ => 0, fun _ => 0, (0, 0, false, 0, 0, 0, false, 0), ⟨⟨by decide, by decide, fun i hi => absurd hi (Nat.not_lt_zero _)⟩, ⟨by decide, by decide⟩, ⟨by decide, by decide⟩, fun i _ => ⟨z0, show (0 : Nat) ≤ 3000 by decide⟩, rfl⟩, ⟨by decide, by decide, by decide, by decide, by decide, by decide, by decide, by decide, by decide, by decide, by decide⟩, fun _ _ _ _ _ _ => rfl, fun j _ => ⟨z0, show (0 : Nat) ≤ 3000 by decide⟩, by decide, fun _ => 0, fun j _ => z0⟩, ⟨-1, by decide, ⟨by decide, by decide⟩, fun v hv => by omega⟩, ⟨by decide, fun f hf => ⟨z0, fun i e he => (i_nil he).elim⟩⟩, by decide, fun i hi => ⟨z0, ⟨0, by decide, z0⟩, false, z0⟩⟩
end LWS
/-- from the entry, for every script of at most 3072 ints, the law comes to its end with true -/
theorem whole_start {p : Program} {e : Env} {s : State} {m : MethodId} {below : List Frame} {meth : Method} {c : Code} (l : Launch) {b L : Nat} {xs : Nat → Int32} (hL : L ≤ 3072) (C0 : lw_At p s m meth c b L xs) : W p l e room_1 s m #[Value.ref b] below meth c s.heap [] 0 0 (lw_Z below #[Value.ref b] s) (entryFrame m ([Value.ref b] : List Value).toArray 4) := by
  have htl := C0.2.2.2.2.2.1
  have hts : ∀ w ∈ wsL_law, w.before #[Value.ref b] s = true := fun w hw => htl w (wsL_law_in w hw)
  have hNw : mm_Nw s := fun w hw => by
    have h1 := htl _ (mm_N_in _ hw)
    rcases mm_N_is w hw with ⟨a, i, x, b', rfl⟩ | ⟨Cn, rfl⟩
    · exact va_Nw.of rfl h1
    · exact va_AO.of h1
  have hex0 : ∀ q ∈ vwCl, ∃ z : ClassId × (Nat → Nat), u_Kn s q.1 q.2.1 q.2.2 z.1 z.2 := by
    have k : ∀ {C : String} {T : u_T} {N n : Nat}, (∀ w ∈ u_ws C T N, w ∈ wsL_law) → Cond.instantiable C n ∈ wsL_law → ∃ z : ClassId × (Nat → Nat), u_Kn s C T N z.1 z.2 := fun hin hi => by
      obtain ⟨cC, iS, h⟩ := u_known hts hin (hts _ hi)
      exact ⟨(cC, iS), h⟩
    exact List.forall_mem_cons.mpr ⟨k inlX0 zi_X0, List.forall_mem_cons.mpr ⟨k inlX1 zi_X1, List.forall_mem_cons.mpr ⟨k inlX2 zi_X2, List.forall_mem_cons.mpr ⟨k inlX3 zi_X3, List.forall_mem_cons.mpr ⟨k inlX4 zi_X4, List.forall_mem_cons.mpr ⟨k inlX5 zi_X5, List.forall_mem_cons.mpr ⟨k inlX6 zi_X6, List.forall_mem_cons.mpr ⟨k inlX7 zi_X7, List.forall_mem_cons.mpr ⟨k inlX8 zi_X8, List.forall_mem_cons.mpr ⟨k inlX9 zi_X9, List.forall_mem_cons.mpr ⟨k inlX10 zi_X10, List.forall_mem_cons.mpr ⟨k inlX11 zi_X11, List.forall_mem_cons.mpr ⟨k inlX12 zi_X12, fun _ h => absurd h List.not_mem_nil⟩⟩⟩⟩⟩⟩⟩⟩⟩⟩⟩⟩⟩
  have hex : ∀ c : Nat, ∃ z : ClassId × (Nat → Nat), ∀ q, vwCl[c]? = some q → u_Kn s q.1 q.2.1 q.2.2 z.1 z.2 := fun c => by
    cases hq : vwCl[c]? with
    | none => exact ⟨(0, fun _ => 0), fun q h => by cases h⟩
    | some q =>
      obtain ⟨z, hz⟩ := hex0 q (List.mem_of_getElem? hq)
      exact ⟨z, fun q' h => by cases h; exact hz⟩
  obtain ⟨f, hf⟩ := Classical.axiomOfChoice hex
  obtain ⟨ai, ki, gi, i1, i2, i3⟩ := Cond.arrayClass_spec (hts _ za_arrayClass_int)
  obtain ⟨al, kl, gl, l1, l2, l3⟩ := Cond.arrayClass_spec (hts _ za_arrayClass_long)
  obtain ⟨az, kz, gz, z1, z2, z3⟩ := Cond.arrayClass_spec (hts _ za_arrayClass_boolean)
  obtain ⟨gv, av, kv, v1, -, v2, v3, v4⟩ := Cond.arrayOver_spec (n := RX9) (hNw _ (List.mem_of_getElem? (i := 15) rfl))
  obtain ⟨gf, af, kf, f1, -, f2, f3, f4⟩ := Cond.arrayOver_spec (n := RX2) (hNw _ (List.mem_of_getElem? (i := 16) rfl))
  obtain ⟨D, hD⟩ : ∃ D : va_G, D = (fun c => (f c).1, fun c => (f c).2) := ⟨_, rfl⟩
  obtain ⟨aa, ha0, ha1, ha2, ha3, ha4, ha5, ha6⟩ : ∃ aa : Nat → ClassId, aa 0 = ai ∧ aa 1 = al ∧ aa 2 = az ∧ aa 3 = ai ∧ aa 4 = ai ∧ aa 5 = av ∧ aa 6 = af := ⟨fun k => if k = 1 then al else if k = 2 then az else if k = 5 then av else if k = 6 then af else ai, rfl, rfl, rfl, rfl, rfl, rfl, rfl⟩
  have hI : ArrOfT s ai .int ∧ va_RA s ai .int := ⟨fun n z => ⟨fun k h => (by cases h), ki, i2, gi, i3⟩, i1⟩
  have hty : ∀ q ∈ (zz_K l D aa s.heap.size).2.2.2.1, ArrOfT s q.1 q.2 ∧ va_RA s q.1 q.2 := by
    refine List.forall_mem_cons.mpr ⟨?_, List.forall_mem_cons.mpr ⟨?_, List.forall_mem_cons.mpr ⟨?_, List.forall_mem_cons.mpr ⟨?_, List.forall_mem_cons.mpr ⟨?_, List.forall_mem_cons.mpr ⟨?_, List.forall_mem_cons.mpr ⟨?_, fun _ h => absurd h List.not_mem_nil⟩⟩⟩⟩⟩⟩⟩
    · show ArrOfT s (aa 0) .int ∧ va_RA s (aa 0) .int
      rw [ha0]; exact hI
    · show ArrOfT s (aa 1) .long ∧ va_RA s (aa 1) .long
      rw [ha1]; exact ⟨fun n z => ⟨fun k h => (by cases h), kl, l2, gl, l3⟩, l1⟩
    · show ArrOfT s (aa 2) .boolean ∧ va_RA s (aa 2) .boolean
      rw [ha2]; exact ⟨fun n z => ⟨fun k h => (by cases h), kz, z2, gz, z3⟩, z1⟩
    · show ArrOfT s (aa 3) .int ∧ va_RA s (aa 3) .int
      rw [ha3]; exact hI
    · show ArrOfT s (aa 4) .int ∧ va_RA s (aa 4) .int
      rw [ha4]; exact hI
    · show ArrOfT s (aa 5) (.object RX9) ∧ va_RA s (aa 5) (.object RX9)
      rw [ha5]; exact ⟨fun n z => ⟨fun k h => (by cases h), kv, v2, gv, v3⟩, kv, gv, v2, v3, v1, v4⟩
    · show ArrOfT s (aa 6) (.object RX2) ∧ va_RA s (aa 6) (.object RX2)
      rw [ha6]; exact ⟨fun n z => ⟨fun k h => (by cases h), kf, f2, gf, f3⟩, kf, gf, f2, f3, f1, f4⟩
  have hK : va_K D vwCl (zz_K l D aa s.heap.size).2.2.2.1 s := ⟨fun c q hq => by rw [hD]; exact hf c q hq, fun k q hq => hty q (List.mem_of_getElem? hq)⟩
  have C : lw_X l D aa p s m meth c b L xs := ⟨C0, hK, hNw, hts, hL⟩
  have hl := lv_entry ([Value.ref b]) (n := 4) (Nat.le_of_ble_eq_true rfl)
  rw [lg_entry_eq]
  generalize (lg_sl ([Value.ref b]) ++ List.replicate (4 - (lg_sl ([Value.ref b])).length) Slot.unset).toArray = ls at hl ⊢
  have hl : lv_has ls 4 [(0, .ref b)] := hl
  have hS : va_S (mm_A (zz_K l D aa s.heap.size)) s.heap s.heap [] := va_S.rf
  have hR : mm_R (zz_K l D aa s.heap.size) (hE 0 [] (fun _ => none)) s.heap := ⟨rfl, fun a e h => by
    have h : (if a < 0 then none else ([] : List mm_E)[a - 0]?) = some e := h
    rw [if_neg (Nat.not_lt_zero _)] at h
    exact (i_nil h).elim⟩
  refine lw_newo tyX11 C dL_law_0 zz_clX11 inlX11 tyX11_ok zn_L_7 zi_X11 zj_X11 eo_dX11 rfl (by decide) (by decide) hR hS (fun H1 hR1 hS1 => ?_)
  rw [hE_new] at hR1
  refine lv_dup C0.1 C0.2.1 dL_law_3 rfl ?_
  refine lw_callI (h := hE 0 [eoX11] (fun _ => none)) (o := 0) (rest := [.ref 0]) (k1 := 168) (s1 := 13754) (d2 := 4) C dL_law_4 zc_L_9 rfl (Nat.le_of_ble_eq_true rfl) (by decide) (by decide) (by decide) ck_X11 (by decide) (by decide) hR1 hS1 hl.1 (fun r h2 H2 locs2 hq hR2 hS2 => ?_)
  obtain ⟨rfl, rfl⟩ := hq
  refine lv_astore_n (x := s.heap.size + 0) (lv' := [(1, .ref (s.heap.size + 0)), (0, .ref b)]) C0.1 C0.2.1 dL_law_7 rfl hl (by decide) rfl (fun ls1 hl1 => ?_)
  refine lw_newo tyX12 C dL_law_8 zz_cl inlX12 tyX12_ok zn_L_10 zi_X12 zj_X12 eo_dX12 rfl (by decide) (by decide) hR2 hS2 (fun H3 hR3 hS3 => ?_)
  have hlen : (hE 0 eXX11 (fun _ => none)).1 = 169 := by
    show 0 + eXX11.length = 169
    rw [eXX11_len]
  rw [hlen]
  rw [hE_new, hE_app, eXX11_len, Nat.zero_add] at hR3
  refine lv_dup C0.1 C0.2.1 dL_law_11 rfl ?_
  refine lw_callI (h := hE 169 [eoX12] (hE 0 eXX11 (fun _ => none)).2) (o := 169) (rest := [.ref 169]) (k1 := 33) (s1 := 159552) (d2 := 1) C dL_law_12 zc_L_12 rfl (Nat.le_of_ble_eq_true rfl) (by decide) (by decide) (by decide) ck_X12 (by decide) (by decide) hR3 hS3 hl1.1 (fun r h4 H4 locs4 hq hR4 hS4 => ?_)
  obtain ⟨rfl, rfl⟩ := hq
  refine lv_astore_n (x := s.heap.size + 169) (lv' := [(2, .ref (s.heap.size + 169)), (1, .ref (s.heap.size + 0)), (0, .ref b)]) C0.1 C0.2.1 dL_law_15 rfl hl1 (by decide) rfl (fun ls2 hl2 => ?_)
  refine lv_iconst (v := nI 0) C0.1 C0.2.1 dL_law_16 (by decide) ?_
  refine lv_istore_n (x := nI 0) (lv' := [(3, .int (nI 0)), (2, .ref (s.heap.size + 169)), (1, .ref (s.heap.size + 0)), (0, .ref b)]) C0.1 C0.2.1 dL_law_17 rfl hl2 (by decide) rfl (fun ls3 hl3 => ?_)
  refine W.widen (k := 600000) (n := 7302250) (by decide) (by decide) ?_
  exact lw_loop C L 0 (by omega) (Nat.zero_le _) aS0 _ H4 locs4 ls3 ⟨i_WF, iX, iY, none, fun _ => true, iF, iG, iA, iB, i_cm2, i_CI, i_rm, i_RI⟩ hR4 hS4 (lv_sub hl3 [3, 2, 1, 0] rfl)
