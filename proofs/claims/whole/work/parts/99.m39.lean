/-! the law from its start -/
theorem shr_00 : ∀ m, m < 32 → (0 : Int32) >>> (nI m &&& 31) = 0 := by decide
theorem fus_00 {m : Nat} (hm : m < 32) : fus 0 (nI m) = 0 := by
  unfold fus
  rw [if_neg]
  intro z
  exact z.2 (by rw [shr_00 m hm]; decide)
theorem shf8_00 : shf8 (fun _ => []) 8 = [] := rfl
theorem SIM_00 (Z : MP) : SIM s00 Z r00 (fun _ => []) [] := by
  refine ⟨⟨fun _ => none, [], fun a e h => (by cases h), ⟨rfl, rfl⟩, List.nodup_nil, fun a h => (by cases h), fun k hk => Or.inl ⟨rfl, rfl⟩⟩, ?_, ?_, ?_, ?_⟩
  · refine ⟨Nat.zero_le _, ⟨Nat.zero_le _, ?_⟩, rfl, rfl, trivial, trivial, fun k hk => rfl, ?_⟩
    · rw [shf8_00]; exact Nat.zero_le _
    · rw [shf8_00]; trivial
  · unfold toI; rw [shf8_00]; exact Nat.zero_le _
  · unfold toI; rw [shf8_00]; rfl
  · refine ⟨fun m hm => ⟨rfl, rfl⟩, fun m hm => ⟨⟨fun _ => rfl, fun _ => fus_00 hm⟩, Or.inl rfl⟩, ⟨rfl, fun k hk => absurd hk (Nat.not_lt_zero _)⟩, ⟨rfl, rfl, rfl, rfl, rfl, ⟨fun _ => rfl, fun _ => rfl⟩⟩, Nat.zero_le _, Nat.le_refl _, by decide, Int32.le_refl _, Int32.le_refl _, fun _ => Nat.zero_le _⟩
theorem PW_rN {ac : Nat → ClassId} {adr : Nat → Nat} {s : PS} {Z M : MP} {o : Nat} {ad : Nat → Nat} (hA : rAD o ad) (hW : PW ac adr s Z M) (hf : ∀ a, rfa o ad a → M a = none) (r : RS) : PW ac adr s (rM ac o ad r Z) (rM ac o ad r M) := by
  obtain ⟨ra, N, h0, hR, hZ, hk, rfl⟩ := hW
  have hin : ∀ a, rfa o ad a → (∀ p ∈ List.range (9 + 3 * xN s), adr p ≠ a) ∧ N a = none := fun a ha => pM_none h0 (hf a ha)
  have hpl : ∀ p ∈ List.range (9 + 3 * xN s), ¬ rfa o ad (adr p) := fun p hp z => (hin _ z).1 p hp rfl
  have hra : ¬ rfa o ad ra := fun z => by rw [(hin _ z).2] at hR; cases hR
  refine ⟨ra, rM ac o ad r N, ⟨h0.1, fun p hp => by rw [rM_n (hpl p hp)]; exact h0.2 p hp⟩, by rw [rM_n hra]; exact hR, fun a e ha => ?_, hk, ?_⟩
  · by_cases hr : rfa o ad a
    · obtain ⟨e', he⟩ := rM_y (ac := ac) (r := r) hA hr
      rw [he Z] at ha
      exact ⟨fun z => hra (z ▸ hr), by rw [he N]; exact ha⟩
    · rw [rM_n hr] at ha ⊢
      exact hZ a e ha
  · funext a
    by_cases hr : rfa o ad a
    · obtain ⟨e', he⟩ := rM_y (ac := ac) (r := r) hA hr
      rw [he _, pM_out (hin a hr).1, he N]
    · rw [rM_n hr]
      unfold pM
      cases (List.range (9 + 3 * xN s)).find? (fun p => adr p == a) with
      | none => simp only; rw [rM_n hr]
      | some p => rfl
set_option maxRecDepth 100000 in
set_option maxHeartbeats 4000000 in
theorem lw_V {l : Launch} {D : va_G} {ac : Nat → ClassId} (hno : ∀ e, l.admits e → e.platform.stackTraces = false) (hL : xsL D ≤ 3072) : V l D (tyl ac) t_Law_law (kk 512 1 0 + 36) (kn 512 1 0 + 371387) 0 (lv_args 0 [.ref (D.2 100 0)]) [] (fun _ => none) (fun r _ => r = some (.int 1)) := by
  obtain ⟨kz, hkz⟩ : ∃ z, z = kk 512 1 0 := ⟨_, rfl⟩
  obtain ⟨nz, hnz⟩ : ∃ z, z = kn 512 1 0 := ⟨_, rfl⟩
  rw [← hkz, ← hnz]
  refine V_new (k' := kz + 35) (n' := nz + 371375) d_Law_law_0 n_Law_8 rfl rfl (fun q0 hq0 => ?_)
  refine V_dup d_Law_law_3 rfl ?_
  refine V_callI (As := []) (rest := [.ref q0]) (k' := kz + 23) (n' := nz + 371001) d_Law_law_4 c_Law_21 ⟨by decide, by decide⟩ rfl rfl (Nat.le_of_ble_eq_true rfl) rfl rfl (PF_init (Z := fun _ => none) hq0 (fun x e h => (by cases h))) (fun r1 M1 hq1 => ?_)
  obtain ⟨rfl, adr, ha0, hW⟩ := hq1
  refine V_astore_n (lv' := [(1, .ref q0), (0, .ref (D.2 100 0))]) d_Law_law_7 (isr_ref _) (by decide) rfl ?_
  refine V_new (k' := kz + 22) (n' := nz + 370967) d_Law_law_8 n_Law_22 rfl rfl (fun q2 hq2 => ?_)
  refine V_dup d_Law_law_11 rfl ?_
  refine V_callI (As := []) (rest := [.ref q2]) (k' := kz + 1) (n' := nz + 1) d_Law_law_12 c_Law_24 ⟨by decide, by decide⟩ rfl rfl (Nat.le_of_ble_eq_true rfl) rfl rfl Mod_init (fun r2 M2 hq => ?_)
  obtain ⟨rfl, ad, hA, hfr, rfl⟩ := hq
  have hf : ∀ a, rfa q2 ad a → M1 a = none := fun a ha => by
    rcases ha with rfl | ⟨q, hq, rfl⟩
    · exact hq2
    · exact hfr q hq
  have hW2 := PW_rN hA hW hf r00
  refine V_astore_n (lv' := [(2, .ref q2), (1, .ref q0), (0, .ref (D.2 100 0))]) d_Law_law_15 (isr_ref _) (by decide) rfl ?_
  refine V_iconst (v := 1) d_Law_law_16 (by decide) ?_
  refine V_newl (N := 1) (k' := kz) (n' := nz) d_Law_law_17 aw_long (by decide) (by decide) (by decide) rfl rfl (fun q3 hq3 => ?_)
  have hW3 := (PW_new hW2 hq3 (oLg ac (fun _ => 0))).1
  obtain ⟨nq, hz3⟩ := rM_none hA (PW_new hW2 hq3 (oLg ac (fun _ => 0))).2
  rw [rM_mu nq] at hW3
  refine V_astore_n (lv' := [(3, .ref q3), (2, .ref q2), (1, .ref q0), (0, .ref (D.2 100 0))]) d_Law_law_19 (isr_ref _) (by decide) rfl ?_
  refine V_iconst (v := nI (6 * 0)) d_Law_law_20 (by decide) ?_
  refine V_istore (lv' := [(4, .int (nI (6 * 0))), (3, .ref q3), (2, .ref q2), (1, .ref q0), (0, .ref (D.2 100 0))]) d_Law_law_21 (by decide) rfl ?_
  refine V_lv [4, 3, 2, 1, 0] rfl ?_
  rw [hkz, hnz]
  refine lw_loop (l := l) (D := D) (ad := ad) hno hL (fun _ => rfl) 512 0 0 1 _ (by decide) (by omega) ⟨adr, s00, r00, _, fun _ => [], [], fun _ => 0, ha0, hA, hW3, DJ_mu (fun a e h => (by cases h)) nq _, SIM_00 _, mu_self _ _ _, rfl, rfl⟩
/-! the tables at the start -/
theorem NW_known {s : State} {args : Array Value} (hts : ∀ w ∈ gw, w.before args s = true) {own : String} {i ci N : Nat} {fs : List Value} (h : NW own i ci fs N) : ∃ (cC : ClassId) (iS : Nat → Nat), ∀ q, cls[ci]? = some q → u_Kn s q.1 q.2.1 q.2.2 cC iS := by
  obtain ⟨C, T, ty, h1, h2, h3, h4, h5, h6⟩ := h
  obtain ⟨cC, iS, hk⟩ := u_known (C := C) (T := T) (N := N) (n := N) hts h2 (hts _ h5)
  exact ⟨cC, iS, fun q hq => by rw [h1] at hq; cases hq; exact hk⟩
theorem arr_known {s : State} {args : Array Value} {ty : FieldType} (h : (Cond.arrayClass ty).before args s = true) (hn : ∀ cA, s.vm.findClass ("[" ++ ty.toString) = some cA → va_RA s cA ty) : ∃ cA, ArrOfT s cA ty ∧ va_RA s cA ty := by
  obtain ⟨c, k, comp, h1, h2, h3⟩ := Cond.arrayClass_spec h
  exact ⟨c, fun n z => ⟨fun k h => (by cases h), k, h2, comp, h3⟩, hn c h1⟩
theorem box_known {s : State} {args : Array Value} (h : (Cond.arrayOver (.object R_Box)).before args s = true) : ∃ cA, ArrOfT s cA (.object R_Box) ∧ va_RA s cA (.object R_Box) := by
  obtain ⟨comp, c, k, h1, h2, h3, h4, h5⟩ := Cond.arrayOver_spec h
  exact ⟨c, fun n z => ⟨fun k h => (by cases h), k, h3, comp, h4⟩, k, comp, h3, h4, h1, h5⟩
theorem nest_of {w : Cond} (h : nest_w w = true) {args : Array Value} {s : State} (hb : w.before args s = true) : va_Nw w s := by
  unfold nest_w at h
  split at h
  · exact va_Nw.of rfl hb
  · exact va_Nw.of rfl hb
  · exact va_AO.of hb
  · cases h
theorem xs_back (x : Int32) : Int32.ofNat x.toUInt32.toNat = x := by
  apply Int32.toBitVec_inj.mp
  show BitVec.ofNat 32 x.toBitVec.toNat = _
  rw [BitVec.ofNat_toNat, BitVec.setWidth_eq]
theorem KK_start {s : State} {args : Array Value} (hts : ∀ w ∈ lw_tbl, w.before args s = true) (b L : Nat) (xs : Nat → Int32) : ∃ (D : va_G) (ac : Nat → ClassId), D.2 100 0 = b ∧ D.2 100 1 = L ∧ (∀ j, Int32.ofNat (D.2 101 j) = xs j) ∧ KK D (tyl ac) s := by
  have hg : ∀ w ∈ gw, w.before args s = true := fun w hw => hts w (List.mem_filter.mp hw).1
  obtain ⟨c0, i0, k0⟩ := NW_known hg n_Law_8
  obtain ⟨c1, i1, k1⟩ := NW_known hg n_OpL_43
  obtain ⟨c2, i2, k2⟩ := NW_known hg n_PgW_9
  obtain ⟨c3, i3, k3⟩ := NW_known hg n_PgW_18
  obtain ⟨c4, i4, k4⟩ := NW_known hg n_Fra_15
  obtain ⟨c5, i5, k5⟩ := NW_known hg n_PF_69
  obtain ⟨c6, i6, k6⟩ := NW_known hg n_PF_51
  obtain ⟨c7, i7, k7⟩ := NW_known hg n_PF_15
  obtain ⟨c8, i8, k8⟩ := NW_known hg n_Fra_9
  obtain ⟨c9, i9, k9⟩ := NW_known hg n_Law_22
  obtain ⟨a0, r0⟩ := arr_known (ty := .int) (hg _ aw_int) (fun _ z => z)
  obtain ⟨a1, r1⟩ := arr_known (ty := .byte) (hg _ aw_byte) (fun _ z => z)
  obtain ⟨a2, r2⟩ := arr_known (ty := .boolean) (hg _ aw_boolean) (fun _ z => z)
  obtain ⟨a3, r3⟩ := arr_known (ty := .long) (hg _ aw_long) (fun _ z => z)
  obtain ⟨a4, r4⟩ := box_known (hts _ (List.mem_filter.mp aw_Box).1)
  refine ⟨(fun c => if c = 0 then c0 else if c = 1 then c1 else if c = 2 then c2 else if c = 3 then c3 else if c = 4 then c4 else if c = 5 then c5 else if c = 6 then c6 else if c = 7 then c7 else if c = 8 then c8 else c9, fun c => if c = 100 then (fun j => if j = 0 then b else L) else if c = 101 then (fun j => (xs j).toUInt32.toNat) else if c = 0 then i0 else if c = 1 then i1 else if c = 2 then i2 else if c = 3 then i3 else if c = 4 then i4 else if c = 5 then i5 else if c = 6 then i6 else if c = 7 then i7 else if c = 8 then i8 else i9), (fun c => if c = 0 then a0 else if c = 1 then a1 else if c = 2 then a2 else if c = 3 then a3 else a4), rfl, rfl, fun j => ?_, ⟨fun c q hq => ?_, fun k q hq => ?_⟩, fun w hw => nest_of (List.mem_filter.mp hw).2 (hts w (List.mem_filter.mp hw).1)⟩
  · show Int32.ofNat (xs j).toUInt32.toNat = xs j
    exact xs_back (xs j)
  · match c, hq with
    | 0, hq => exact k0 q hq
    | 1, hq => exact k1 q hq
    | 2, hq => exact k2 q hq
    | 3, hq => exact k3 q hq
    | 4, hq => exact k4 q hq
    | 5, hq => exact k5 q hq
    | 6, hq => exact k6 q hq
    | 7, hq => exact k7 q hq
    | 8, hq => exact k8 q hq
    | 9, hq => exact k9 q hq
    | c + 10, hq => cases hq
  · match k, hq with
    | 0, hq => cases hq; exact r0
    | 1, hq => cases hq; exact r1
    | 2, hq => cases hq; exact r2
    | 3, hq => cases hq; exact r3
    | 4, hq => cases hq; exact r4
    | k + 5, hq => cases hq
theorem tb_in {w : Cond} (i : Nat) (h : tables_1[i]? = some w) : w ∈ lw_tbl := List.mem_append_right _ (List.mem_of_getElem? h)
theorem AC_start {D : va_G} {s : State} {b L : Nat} {xs : Nat → Int32} (hts : ∀ w ∈ lw_tbl, w.before #[Value.ref b] s = true) (hgv : (Jvm.Cond.and given_1 narrow_1).before #[Value.ref b] s = true) (hX : va_X b L xs s s.heap) (hbl : b < s.heap.size) (e0 : D.2 100 0 = b) (e1 : D.2 100 1 = L) (e2 : ∀ j, Int32.ofNat (D.2 101 j) = xs j) : AC D (fun q => s.heap.size ≤ q) s := by
  have hs := flat_of_before _ hgv
  have hl1 := hts _ (tb_in (w := .laysStatic "java/lang/Throwable" "UNASSIGNED_STACK" "[Ljava/lang/StackTraceElement;") 483 (by decide +kernel))
  have hl2 := hts _ (tb_in (w := .laysStatic "java/lang/Throwable" "SUPPRESSED_SENTINEL" "Ljava/util/List;") 485 (by decide +kernel))
  have hr1 : (Cond.isRef (.static "java/lang/Throwable" "UNASSIGNED_STACK" "[Ljava/lang/StackTraceElement;")).before #[Value.ref b] s = true := hs _ (by decide +kernel)
  have hr2 : (Cond.isRef (.static "java/lang/Throwable" "SUPPRESSED_SENTINEL" "Ljava/util/List;")).before #[Value.ref b] s = true := hs _ (by decide +kernel)
  have hnt : (Cond.not (Cond.castable "java/lang/UnsupportedOperationException" "java/lang/IllegalStateException")).before #[Value.ref b] s = true := hs _ (by decide +kernel)
  obtain ⟨c, k, i, f, a, cell, p1, p2, p3, p4, p5, p6, -⟩ := Cond.laysStatic_spec hl1
  obtain ⟨c', k', i', f', a', cell', q1, q2, q3, q4, -⟩ := Cond.laysStatic_spec hl2
  cases p1.symm.trans q1
  cases (State.fieldFound?_spec p2).1.symm.trans (State.fieldFound?_spec q2).1
  cases p4.symm.trans q4
  have hal : a < s.heap.size := (Array.getElem?_eq_some_iff.mp p5).1
  refine ⟨⟨fun q hq => hq, ?_, ?_⟩, s, a, ⟨?_, ?_, ?_, ?_⟩, State.WarmedH.refl _, Nat.not_le.mpr hal, hal, rfl⟩
  · rw [e0, e1, show (fun j => Int32.ofNat (D.2 101 j)) = xs from funext e2]; exact hX
  · rw [e0]; exact Nat.not_le.mpr hbl
  · intro w hw
    unfold tkA at hw
    simp only [List.mem_cons, List.not_mem_nil, or_false] at hw
    rcases hw with rfl | rfl | rfl | rfl | rfl
    · exact va_Nw.of rfl (hts _ (tb_in 460 (by decide +kernel)))
    · exact va_Nw.of rfl (hts _ (tb_in 462 (by decide +kernel)))
    · exact va_Nw.of rfl (hts _ (tb_in 464 (by decide +kernel)))
    · exact va_Nw.of rfl (hts _ (tb_in 458 (by decide +kernel)))
    · exact va_Nw.of rfl (hts _ (tb_in 525 (by decide +kernel)))
  · intro q hq
    unfold tkS at hq
    simp only [List.mem_cons, List.not_mem_nil, or_false] at hq
    rcases hq with rfl | rfl | rfl | rfl
    · exact hts _ (tb_in (w := .stringRef "PageFile" 131 "the file has its end, or there is no box") 496 (by decide +kernel))
    · exact hts _ (tb_in (w := .stringRef "PageFile" 144 "the file is full") 532 (by decide +kernel))
    · exact hts _ (tb_in (w := .stringRef "PageFile" 151 "a place or a move is no size") 688 (by decide +kernel))
    · exact hts _ (tb_in (w := .stringRef "PageFile" 153 "the file has its end") 696 (by decide +kernel))
  · intro q hq
    unfold tkB at hq
    simp only [List.mem_cons, List.not_mem_nil, or_false] at hq
    rcases hq with rfl | rfl
    · exact ⟨hl1, hr1, c, k, i, f, p2, p4⟩
    · exact ⟨hl2, hr2, c, k, i', f', q2, p4⟩
  · intro c1 c2 h1 h2
    have h := hnt
    simp only [Cond.before, Cond.holds, Cond.value, h1, h2, Option.map_some] at h
    cases ha : s.vm.assignable c1 c2 with
    | false => rfl
    | true => rw [ha] at h; simp at h
