/-! Track, Bytes' readers, Fonts' small methods -/
/-- a track's fields: command, place, first, second, which is older -/
abbrev trv (c p f s o : Int32) : List Value := [.int c, .int p, .int f, .int s, .int o]
theorem upuf (C : Nat → va_E) (p : Nat) (e e' : va_E) : va_up (va_up C p e) p e' = va_up C p e' := bx_uu C p e e'
theorem upup (C : Nat → va_E) {p : Nat} {e : va_E} (h : C p = e) : va_up C p e = C := by
  funext j
  unfold va_up
  split
  · next hj => rw [hj]; exact h.symm
  · rfl
set_option maxRecDepth 100000 in
set_option maxHeartbeats 4000000 in
theorem Trk_restart {l : Launch} {D : va_G} {ac : Nat → ClassId} {T : List Nat} {adr : Nat → Nat} {C : Nat → va_E} {N : MP} (h0 : pOK T adr N) {p : Nat} (hp : p ∈ T) {c x f s u : Int32} (hC : C p = .inr (8, trv c x f s u)) : Ct l D (tyl ac) t_Trk_restart 0 0 [.ref (adr p)] (pM T adr C N) (PQ none (pM T adr (va_up C p (.inr (8, trv c 0 0 0 0))) N)) := by
  refine Ct_of (by decide) (Nat.le_of_ble_eq_true rfl) ?_
  refine V_aload_n d_Trk_restart_0 rfl (isr_ref _) ?_
  refine V_iconst (v := 0) d_Trk_restart_1 (by decide) ?_
  refine VP_put h0 hp d_Trk_restart_2 f_Trk_15 (hC) (rfl) (rfl) (Nat.le_of_ble_eq_true rfl) ?_
  refine V_aload_n d_Trk_restart_5 rfl (isr_ref _) ?_
  refine V_iconst (v := 0) d_Trk_restart_6 (by decide) ?_
  refine VP_put h0 hp d_Trk_restart_7 f_Trk_18 (va_up_self _ _ _) (rfl) (rfl) (Nat.le_of_ble_eq_true rfl) ?_
  rw [upuf]
  refine V_aload_n d_Trk_restart_10 rfl (isr_ref _) ?_
  refine V_iconst (v := 0) d_Trk_restart_11 (by decide) ?_
  refine VP_put h0 hp d_Trk_restart_12 f_Trk_21 (va_up_self _ _ _) (rfl) (rfl) (Nat.le_of_ble_eq_true rfl) ?_
  rw [upuf]
  refine V_aload_n d_Trk_restart_15 rfl (isr_ref _) ?_
  refine V_iconst (v := 0) d_Trk_restart_16 (by decide) ?_
  refine VP_put h0 hp d_Trk_restart_17 f_Trk_24 (va_up_self _ _ _) (by decide) (by decide) (Nat.le_of_ble_eq_true rfl) ?_
  rw [upuf]
  exact V_return d_Trk_restart_20 rfl ⟨rfl, rfl⟩
set_option maxRecDepth 100000 in
set_option maxHeartbeats 4000000 in
theorem Trk_become {l : Launch} {D : va_G} {ac : Nat → ClassId} {T : List Nat} {adr : Nat → Nat} {C : Nat → va_E} {N : MP} (h0 : pOK T adr N) {p : Nat} (hp : p ∈ T) {q : Nat} (hq : q ∈ T) (hqp : q ≠ p) {c x f s u c2 x2 f2 s2 u2 : Int32} (hC : C p = .inr (8, trv c x f s u)) (hQ : C q = .inr (8, trv c2 x2 f2 s2 u2)) (hz : narrow .boolean (.int u2) = .int u2 ∧ fits .boolean (.int u2) = true) : Ct l D (tyl ac) t_Trk_become 0 0 [.ref (adr p), .ref (adr q)] (pM T adr C N) (PQ none (pM T adr (va_up C p (.inr (8, trv c x2 f2 s2 u2))) N)) := by
  refine Ct_of (by decide) (Nat.le_of_ble_eq_true rfl) ?_
  refine V_aload_n d_Trk_become_0 rfl (isr_ref _) ?_
  refine V_aload_n d_Trk_become_1 rfl (isr_ref _) ?_
  refine VP_get h0 hq d_Trk_become_2 f_Trk_15 (hQ) rfl ?_
  refine VP_put h0 hp d_Trk_become_5 f_Trk_15 (hC) (rfl) (rfl) (Nat.le_of_ble_eq_true rfl) ?_
  refine V_aload_n d_Trk_become_8 rfl (isr_ref _) ?_
  refine V_aload_n d_Trk_become_9 rfl (isr_ref _) ?_
  refine VP_get h0 hq d_Trk_become_10 f_Trk_18 ((va_up_ne _ _ hqp).trans hQ) rfl ?_
  refine VP_put h0 hp d_Trk_become_13 f_Trk_18 (va_up_self _ _ _) (rfl) (rfl) (Nat.le_of_ble_eq_true rfl) ?_
  rw [upuf]
  refine V_aload_n d_Trk_become_16 rfl (isr_ref _) ?_
  refine V_aload_n d_Trk_become_17 rfl (isr_ref _) ?_
  refine VP_get h0 hq d_Trk_become_18 f_Trk_21 ((va_up_ne _ _ hqp).trans hQ) rfl ?_
  refine VP_put h0 hp d_Trk_become_21 f_Trk_21 (va_up_self _ _ _) (rfl) (rfl) (Nat.le_of_ble_eq_true rfl) ?_
  rw [upuf]
  refine V_aload_n d_Trk_become_24 rfl (isr_ref _) ?_
  refine V_aload_n d_Trk_become_25 rfl (isr_ref _) ?_
  refine VP_get h0 hq d_Trk_become_26 f_Trk_24 ((va_up_ne _ _ hqp).trans hQ) rfl ?_
  refine VP_put h0 hp d_Trk_become_29 f_Trk_24 (va_up_self _ _ _) (hz.1) (hz.2) (Nat.le_of_ble_eq_true rfl) ?_
  rw [upuf]
  exact V_return d_Trk_become_32 rfl ⟨rfl, rfl⟩
def nbl (x : Int64) : Nat := if ¬ x < -128 ∧ ¬ 128 ≤ x then 1 else if ¬ x < -32768 ∧ ¬ 32768 ≤ x then 2 else if ¬ x < -8388608 ∧ ¬ 8388608 ≤ x then 3 else 4
theorem nbl_le (x : Int64) : 1 ≤ nbl x ∧ nbl x ≤ 4 := by
  unfold nbl
  split
  · omega
  · split
    · omega
    · split <;> omega
set_option maxRecDepth 100000 in
set_option maxHeartbeats 4000000 in
theorem Trk_fewestBytes {l : Launch} {D : va_G} {ac : Nat → ClassId} (x : Int64) : SCi l D ac t_Trk_fewestBytes [.long x] (nI (nbl x)) := fun M => by
  refine Ct_of (by decide) (Nat.le_of_ble_eq_true rfl) ?_
  refine V_lload_n d_Trk_fewestBytes_0 rfl ?_
  refine V_ldc2 d_Trk_fewestBytes_1 k_Trk_42 ?_
  refine V_lcmp d_Trk_fewestBytes_4 ?_
  refine V_if_lt 18 d_Trk_fewestBytes_5 (by decide) (fun h5 => ?_) (fun h5 => ?_)
  · refine V_lload_n d_Trk_fewestBytes_18 rfl ?_
    refine V_ldc2 d_Trk_fewestBytes_19 k_Trk_46 ?_
    refine V_lcmp d_Trk_fewestBytes_22 ?_
    refine V_if_lt 36 d_Trk_fewestBytes_23 (by decide) (fun h23 => ?_) (fun h23 => ?_)
    · refine V_lload_n d_Trk_fewestBytes_36 rfl ?_
      refine V_ldc2 d_Trk_fewestBytes_37 k_Trk_50 ?_
      refine V_lcmp d_Trk_fewestBytes_40 ?_
      refine V_if_lt 56 d_Trk_fewestBytes_41 (by decide) (fun h41 => ?_) (fun h41 => ?_)
      · refine V_iconst (v := nI 4) d_Trk_fewestBytes_56 (by decide) ?_
        exact V_ireturn d_Trk_fewestBytes_57 rfl ⟨by rw [nbl, if_neg (fun z => z.1 ((lg_cmp_lt _ _).mp h5)), if_neg (fun z => z.1 ((lg_cmp_lt _ _).mp h23)), if_neg (fun z => z.1 ((lg_cmp_lt _ _).mp h41))], rfl⟩
      · refine V_lload_n d_Trk_fewestBytes_44 rfl ?_
        refine V_ldc2 d_Trk_fewestBytes_45 k_Trk_52 ?_
        refine V_lcmp d_Trk_fewestBytes_48 ?_
        refine V_if_ge 56 d_Trk_fewestBytes_49 (by decide) (fun h49 => ?_) (fun h49 => ?_)
        · refine V_iconst (v := nI 4) d_Trk_fewestBytes_56 (by decide) ?_
          exact V_ireturn d_Trk_fewestBytes_57 rfl ⟨by rw [nbl, if_neg (fun z => z.1 ((lg_cmp_lt _ _).mp h5)), if_neg (fun z => z.1 ((lg_cmp_lt _ _).mp h23)), if_neg (fun z => z.2 ((lg_cmp_ge _ _).mp h49))], rfl⟩
        · refine V_iconst (v := nI 3) d_Trk_fewestBytes_52 (by decide) ?_
          refine V_goto 57 d_Trk_fewestBytes_53 (by decide) ?_
          exact V_ireturn d_Trk_fewestBytes_57 rfl ⟨by rw [nbl, if_neg (fun z => z.1 ((lg_cmp_lt _ _).mp h5)), if_neg (fun z => z.1 ((lg_cmp_lt _ _).mp h23)), if_pos ⟨fun z => h41 ((lg_cmp_lt _ _).mpr z), fun z => h49 ((lg_cmp_ge _ _).mpr z)⟩], rfl⟩
    · refine V_lload_n d_Trk_fewestBytes_26 rfl ?_
      refine V_ldc2 d_Trk_fewestBytes_27 k_Trk_48 ?_
      refine V_lcmp d_Trk_fewestBytes_30 ?_
      refine V_if_ge 36 d_Trk_fewestBytes_31 (by decide) (fun h31 => ?_) (fun h31 => ?_)
      · refine V_lload_n d_Trk_fewestBytes_36 rfl ?_
        refine V_ldc2 d_Trk_fewestBytes_37 k_Trk_50 ?_
        refine V_lcmp d_Trk_fewestBytes_40 ?_
        refine V_if_lt 56 d_Trk_fewestBytes_41 (by decide) (fun h41 => ?_) (fun h41 => ?_)
        · refine V_iconst (v := nI 4) d_Trk_fewestBytes_56 (by decide) ?_
          exact V_ireturn d_Trk_fewestBytes_57 rfl ⟨by rw [nbl, if_neg (fun z => z.1 ((lg_cmp_lt _ _).mp h5)), if_neg (fun z => z.2 ((lg_cmp_ge _ _).mp h31)), if_neg (fun z => z.1 ((lg_cmp_lt _ _).mp h41))], rfl⟩
        · refine V_lload_n d_Trk_fewestBytes_44 rfl ?_
          refine V_ldc2 d_Trk_fewestBytes_45 k_Trk_52 ?_
          refine V_lcmp d_Trk_fewestBytes_48 ?_
          refine V_if_ge 56 d_Trk_fewestBytes_49 (by decide) (fun h49 => ?_) (fun h49 => ?_)
          · refine V_iconst (v := nI 4) d_Trk_fewestBytes_56 (by decide) ?_
            exact V_ireturn d_Trk_fewestBytes_57 rfl ⟨by rw [nbl, if_neg (fun z => z.1 ((lg_cmp_lt _ _).mp h5)), if_neg (fun z => z.2 ((lg_cmp_ge _ _).mp h31)), if_neg (fun z => z.2 ((lg_cmp_ge _ _).mp h49))], rfl⟩
          · refine V_iconst (v := nI 3) d_Trk_fewestBytes_52 (by decide) ?_
            refine V_goto 57 d_Trk_fewestBytes_53 (by decide) ?_
            exact V_ireturn d_Trk_fewestBytes_57 rfl ⟨by rw [nbl, if_neg (fun z => z.1 ((lg_cmp_lt _ _).mp h5)), if_neg (fun z => z.2 ((lg_cmp_ge _ _).mp h31)), if_pos ⟨fun z => h41 ((lg_cmp_lt _ _).mpr z), fun z => h49 ((lg_cmp_ge _ _).mpr z)⟩], rfl⟩
      · refine V_iconst (v := nI 2) d_Trk_fewestBytes_34 (by decide) ?_
        exact V_ireturn d_Trk_fewestBytes_35 rfl ⟨by rw [nbl, if_neg (fun z => z.1 ((lg_cmp_lt _ _).mp h5)), if_pos ⟨fun z => h23 ((lg_cmp_lt _ _).mpr z), fun z => h31 ((lg_cmp_ge _ _).mpr z)⟩], rfl⟩
  · refine V_lload_n d_Trk_fewestBytes_8 rfl ?_
    refine V_ldc2 d_Trk_fewestBytes_9 k_Trk_44 ?_
    refine V_lcmp d_Trk_fewestBytes_12 ?_
    refine V_if_ge 18 d_Trk_fewestBytes_13 (by decide) (fun h13 => ?_) (fun h13 => ?_)
    · refine V_lload_n d_Trk_fewestBytes_18 rfl ?_
      refine V_ldc2 d_Trk_fewestBytes_19 k_Trk_46 ?_
      refine V_lcmp d_Trk_fewestBytes_22 ?_
      refine V_if_lt 36 d_Trk_fewestBytes_23 (by decide) (fun h23 => ?_) (fun h23 => ?_)
      · refine V_lload_n d_Trk_fewestBytes_36 rfl ?_
        refine V_ldc2 d_Trk_fewestBytes_37 k_Trk_50 ?_
        refine V_lcmp d_Trk_fewestBytes_40 ?_
        refine V_if_lt 56 d_Trk_fewestBytes_41 (by decide) (fun h41 => ?_) (fun h41 => ?_)
        · refine V_iconst (v := nI 4) d_Trk_fewestBytes_56 (by decide) ?_
          exact V_ireturn d_Trk_fewestBytes_57 rfl ⟨by rw [nbl, if_neg (fun z => z.2 ((lg_cmp_ge _ _).mp h13)), if_neg (fun z => z.1 ((lg_cmp_lt _ _).mp h23)), if_neg (fun z => z.1 ((lg_cmp_lt _ _).mp h41))], rfl⟩
        · refine V_lload_n d_Trk_fewestBytes_44 rfl ?_
          refine V_ldc2 d_Trk_fewestBytes_45 k_Trk_52 ?_
          refine V_lcmp d_Trk_fewestBytes_48 ?_
          refine V_if_ge 56 d_Trk_fewestBytes_49 (by decide) (fun h49 => ?_) (fun h49 => ?_)
          · refine V_iconst (v := nI 4) d_Trk_fewestBytes_56 (by decide) ?_
            exact V_ireturn d_Trk_fewestBytes_57 rfl ⟨by rw [nbl, if_neg (fun z => z.2 ((lg_cmp_ge _ _).mp h13)), if_neg (fun z => z.1 ((lg_cmp_lt _ _).mp h23)), if_neg (fun z => z.2 ((lg_cmp_ge _ _).mp h49))], rfl⟩
          · refine V_iconst (v := nI 3) d_Trk_fewestBytes_52 (by decide) ?_
            refine V_goto 57 d_Trk_fewestBytes_53 (by decide) ?_
            exact V_ireturn d_Trk_fewestBytes_57 rfl ⟨by rw [nbl, if_neg (fun z => z.2 ((lg_cmp_ge _ _).mp h13)), if_neg (fun z => z.1 ((lg_cmp_lt _ _).mp h23)), if_pos ⟨fun z => h41 ((lg_cmp_lt _ _).mpr z), fun z => h49 ((lg_cmp_ge _ _).mpr z)⟩], rfl⟩
      · refine V_lload_n d_Trk_fewestBytes_26 rfl ?_
        refine V_ldc2 d_Trk_fewestBytes_27 k_Trk_48 ?_
        refine V_lcmp d_Trk_fewestBytes_30 ?_
        refine V_if_ge 36 d_Trk_fewestBytes_31 (by decide) (fun h31 => ?_) (fun h31 => ?_)
        · refine V_lload_n d_Trk_fewestBytes_36 rfl ?_
          refine V_ldc2 d_Trk_fewestBytes_37 k_Trk_50 ?_
          refine V_lcmp d_Trk_fewestBytes_40 ?_
          refine V_if_lt 56 d_Trk_fewestBytes_41 (by decide) (fun h41 => ?_) (fun h41 => ?_)
          · refine V_iconst (v := nI 4) d_Trk_fewestBytes_56 (by decide) ?_
            exact V_ireturn d_Trk_fewestBytes_57 rfl ⟨by rw [nbl, if_neg (fun z => z.2 ((lg_cmp_ge _ _).mp h13)), if_neg (fun z => z.2 ((lg_cmp_ge _ _).mp h31)), if_neg (fun z => z.1 ((lg_cmp_lt _ _).mp h41))], rfl⟩
          · refine V_lload_n d_Trk_fewestBytes_44 rfl ?_
            refine V_ldc2 d_Trk_fewestBytes_45 k_Trk_52 ?_
            refine V_lcmp d_Trk_fewestBytes_48 ?_
            refine V_if_ge 56 d_Trk_fewestBytes_49 (by decide) (fun h49 => ?_) (fun h49 => ?_)
            · refine V_iconst (v := nI 4) d_Trk_fewestBytes_56 (by decide) ?_
              exact V_ireturn d_Trk_fewestBytes_57 rfl ⟨by rw [nbl, if_neg (fun z => z.2 ((lg_cmp_ge _ _).mp h13)), if_neg (fun z => z.2 ((lg_cmp_ge _ _).mp h31)), if_neg (fun z => z.2 ((lg_cmp_ge _ _).mp h49))], rfl⟩
            · refine V_iconst (v := nI 3) d_Trk_fewestBytes_52 (by decide) ?_
              refine V_goto 57 d_Trk_fewestBytes_53 (by decide) ?_
              exact V_ireturn d_Trk_fewestBytes_57 rfl ⟨by rw [nbl, if_neg (fun z => z.2 ((lg_cmp_ge _ _).mp h13)), if_neg (fun z => z.2 ((lg_cmp_ge _ _).mp h31)), if_pos ⟨fun z => h41 ((lg_cmp_lt _ _).mpr z), fun z => h49 ((lg_cmp_ge _ _).mpr z)⟩], rfl⟩
        · refine V_iconst (v := nI 2) d_Trk_fewestBytes_34 (by decide) ?_
          exact V_ireturn d_Trk_fewestBytes_35 rfl ⟨by rw [nbl, if_neg (fun z => z.2 ((lg_cmp_ge _ _).mp h13)), if_pos ⟨fun z => h23 ((lg_cmp_lt _ _).mpr z), fun z => h31 ((lg_cmp_ge _ _).mpr z)⟩], rfl⟩
    · refine V_iconst (v := nI 1) d_Trk_fewestBytes_16 (by decide) ?_
      exact V_ireturn d_Trk_fewestBytes_17 rfl ⟨by rw [nbl, if_pos ⟨fun z => h5 ((lg_cmp_lt _ _).mpr z), fun z => h13 ((lg_cmp_ge _ _).mpr z)⟩], rfl⟩
def byg (f : Nat → Int32) (n : Nat) (x : Int32) : Int32 := if ¬ x < 0 ∧ x < nI n then f x.toNatClampNeg &&& 255 else -1
set_option maxRecDepth 100000 in
set_option maxHeartbeats 4000000 in
theorem Byt_get {l : Launch} {D : va_G} {ac : Nat → ClassId} {T : List Nat} {adr : Nat → Nat} {C : Nat → va_E} {N : MP} (h0 : pOK T adr N) {p : Nat} (hp : p ∈ T) {pr : Nat} (hr : pr ∈ T) {n cap : Nat} {f : Nat → Int32} (hC : C p = .inr (2, [.ref (adr pr), .int (nI n)])) (hR : C pr = .inl (ac 1, cap, .inl f)) (hn : n ≤ cap) (hcap : cap < 2 ^ 31) (x : Int32) : Ct l D (tyl ac) t_Byt_get 0 0 [.ref (adr p), .int x] (pM T adr C N) (PQ (some (.int (byg f n x))) (pM T adr C N)) := by
  refine Ct_of (by decide) (Nat.le_of_ble_eq_true rfl) ?_
  refine V_iload_n d_Byt_get_0 rfl ?_
  refine V_if_lt 25 d_Byt_get_1 (by decide) (fun h1 => ?_) (fun h1 => ?_)
  · refine V_iconst (v := (-1)) d_Byt_get_25 (by decide) ?_
    exact V_ireturn d_Byt_get_26 rfl ⟨by rw [byg, if_neg (fun z => z.1 h1)], rfl⟩
  · refine V_iload_n d_Byt_get_4 rfl ?_
    refine V_aload_n d_Byt_get_5 rfl (isr_ref _) ?_
    refine VP_get h0 hp d_Byt_get_6 f_Byt_15 (hC) rfl ?_
    refine V_icmp_ge 25 d_Byt_get_9 (by decide) (fun h9 => ?_) (fun h9 => ?_)
    · refine V_iconst (v := (-1)) d_Byt_get_25 (by decide) ?_
      exact V_ireturn d_Byt_get_26 rfl ⟨by rw [byg, if_neg (fun z => absurd h9 (Int32.not_le.mpr z.2))], rfl⟩
    · have hlt := Int32.not_le.mp h9
      obtain ⟨m, hm, rfl⟩ := nI_n (by omega) h1 hlt
      refine V_aload_n d_Byt_get_12 rfl (isr_ref _) ?_
      refine VP_get h0 hp d_Byt_get_13 f_Byt_9 (hC) rfl ?_
      refine V_iload_n d_Byt_get_16 rfl ?_
      refine V_bald d_Byt_get_17 ((pM_p h0 hr).trans (congrArg some hR)) (vp_in_nI (by omega) (by omega)) ?_
      refine V_sipush (v := 255) d_Byt_get_18 (by decide) ?_
      refine V_iand d_Byt_get_21 ?_
      refine V_goto 26 d_Byt_get_22 (by decide) ?_
      exact V_ireturn d_Byt_get_26 rfl ⟨by rw [byg, if_pos ⟨h1, hlt⟩], rfl⟩
set_option maxRecDepth 100000 in
set_option maxHeartbeats 4000000 in
theorem Byt_cutTo {l : Launch} {D : va_G} {ac : Nat → ClassId} {T : List Nat} {adr : Nat → Nat} {C : Nat → va_E} {N : MP} (h0 : pOK T adr N) {p : Nat} (hp : p ∈ T) {pr n m : Nat} (hC : C p = .inr (2, [.ref (adr pr), .int (nI n)])) (hn : n < 2 ^ 31) (hm : m < 2 ^ 31) : Ct l D (tyl ac) t_Byt_cutTo 0 0 [.ref (adr p), .int (nI m)] (pM T adr C N) (PQ none (pM T adr (va_up C p (.inr (2, [.ref (adr pr), .int (nI (if m < n then m else n))]))) N)) := by
  refine Ct_of (by decide) (Nat.le_of_ble_eq_true rfl) ?_
  refine V_iload_n d_Byt_cutTo_0 rfl ?_
  refine V_if_lt 17 d_Byt_cutTo_1 (by decide) (fun h1 => ?_) (fun h1 => ?_)
  · exact absurd h1 (nI_pos (by omega))
  · refine V_iload_n d_Byt_cutTo_4 rfl ?_
    refine V_aload_n d_Byt_cutTo_5 rfl (isr_ref _) ?_
    refine VP_get h0 hp d_Byt_cutTo_6 f_Byt_15 (hC) rfl ?_
    refine V_icmp_ge 17 d_Byt_cutTo_9 (by decide) (fun h9 => ?_) (fun h9 => ?_)
    · have hm2 : ¬ m < n := fun z => absurd h9 (nI_ge z (by omega))
      exact V_return d_Byt_cutTo_17 rfl ⟨rfl, by rw [if_neg hm2, upup C hC]⟩
    · have hm2 : m < n := by
        rcases Nat.lt_or_ge m n with z | z
        · exact z
        · exact absurd (nI_le z (by omega)) h9
      refine V_aload_n d_Byt_cutTo_12 rfl (isr_ref _) ?_
      refine V_iload_n d_Byt_cutTo_13 rfl ?_
      refine VP_put h0 hp d_Byt_cutTo_14 f_Byt_15 (hC) (rfl) (rfl) (Nat.le_of_ble_eq_true rfl) ?_
      exact V_return d_Byt_cutTo_17 rfl ⟨rfl, by rw [if_pos hm2]; rfl⟩
def fus (us x : Int32) : Int32 := if ¬ ifn x = 0 ∧ ¬ (us >>> (x &&& 31)) &&& 1 = 0 then 1 else 0
set_option maxRecDepth 100000 in
set_option maxHeartbeats 4000000 in
theorem Fon_isUsed {l : Launch} {D : va_G} {ac : Nat → ClassId} {T : List Nat} {adr : Nat → Nat} {C : Nat → va_E} {N : MP} (h0 : pOK T adr N) {p : Nat} (hp : p ∈ T) {a1 a2 us : Int32} {r1 r2 : Value} (hC : C p = .inr (3, [r1, r2, .int us])) (x : Int32) : Ct l D (tyl ac) t_Fon_isUsed 0 0 [.ref (adr p), .int x] (pM T adr C N) (PQ (some (.int (fus us x))) (pM T adr C N)) := by
  refine Ct_of (by decide) (Nat.le_of_ble_eq_true rfl) ?_
  refine V_iload_n d_Fon_isUsed_0 rfl ?_
  refine VS_ci1N d_Fon_isUsed_1 c_Fon_18 (PF_isFont x) ⟨by decide, by decide⟩ (Nat.le_of_ble_eq_true rfl) ?_
  refine V_if_eq 22 d_Fon_isUsed_4 (by decide) (fun h4 => ?_) (fun h4 => ?_)
  · refine V_iconst (v := 0) d_Fon_isUsed_22 (by decide) ?_
    exact V_zreturn d_Fon_isUsed_23 rfl nz0 ⟨by rw [fus, if_neg (fun z => z.1 h4)], rfl⟩
  · refine V_aload_n d_Fon_isUsed_7 rfl (isr_ref _) ?_
    refine VP_get h0 hp d_Fon_isUsed_8 f_Fon_22 (hC) rfl ?_
    refine V_iload_n d_Fon_isUsed_11 rfl ?_
    refine V_ishr d_Fon_isUsed_12 ?_
    refine V_iconst (v := 1) d_Fon_isUsed_13 (by decide) ?_
    refine V_iand d_Fon_isUsed_14 ?_
    refine V_if_eq 22 d_Fon_isUsed_15 (by decide) (fun h15 => ?_) (fun h15 => ?_)
    · refine V_iconst (v := 0) d_Fon_isUsed_22 (by decide) ?_
      exact V_zreturn d_Fon_isUsed_23 rfl nz0 ⟨by rw [fus, if_neg (fun z => z.2 h15)], rfl⟩
    · refine V_iconst (v := 1) d_Fon_isUsed_18 (by decide) ?_
      refine V_goto 23 d_Fon_isUsed_19 (by decide) ?_
      exact V_zreturn d_Fon_isUsed_23 rfl nz1 ⟨by rw [fus, if_pos ⟨h4, h15⟩], rfl⟩
set_option maxRecDepth 100000 in
set_option maxHeartbeats 4000000 in
theorem Fon_keep {l : Launch} {D : va_G} {ac : Nat → ClassId} {T : List Nat} {adr : Nat → Nat} {C : Nat → va_E} {N : MP} (h0 : pOK T adr N) {p : Nat} (hp : p ∈ T) {ps pd : Nat} (hs : ps ∈ T) (hd9 : pd ∈ T) {us : Int32} {fs fd : Nat → Int32} (hC : C p = .inr (3, [.ref (adr ps), .ref (adr pd), .int us])) (hS : C ps = .inl (ac 0, 32, .inl fs)) (hD9 : C pd = .inl (ac 0, 32, .inl fd)) (hps : p ≠ ps) (hds : pd ≠ ps) {m : Nat} (hm : m < 32) (x y : Int32) : Ct l D (tyl ac) t_Fon_keep 0 0 [.ref (adr p), .int (nI m), .int x, .int y] (pM T adr C N) (PQ none (pM T adr (va_up (va_up C ps (.inl (ac 0, 32, .inl (upd fs m x)))) pd (.inl (ac 0, 32, .inl (upd fd m y)))) N)) := by
  refine Ct_of (by decide) (Nat.le_of_ble_eq_true rfl) ?_
  refine V_iload_n d_Fon_keep_0 rfl ?_
  refine VS_ci1N d_Fon_keep_1 c_Fon_18 (PF_isFont (nI m)) ⟨by decide, by decide⟩ (Nat.le_of_ble_eq_true rfl) ?_
  refine V_if_eq 21 d_Fon_keep_4 (by decide) (fun h4 => ?_) (fun h4 => ?_)
  · exact absurd h4 (by rw [ifn, if_pos ⟨nI_pos (by omega), nI_ge (b := 32) (by omega) (by decide)⟩]; decide)
  · refine V_aload_n d_Fon_keep_7 rfl (isr_ref _) ?_
    refine VP_get h0 hp d_Fon_keep_8 f_Fon_9 (hC) rfl ?_
    refine V_iload_n d_Fon_keep_11 rfl ?_
    refine V_iload_n d_Fon_keep_12 rfl ?_
    refine V_iast d_Fon_keep_13 ((pM_p h0 hs).trans (congrArg some hS)) (vp_in_nI (by omega) (by decide)) ?_
    rw [pM_set h0 hs, nI_clamp (by omega)]
    refine V_aload_n d_Fon_keep_14 rfl (isr_ref _) ?_
    refine VP_get h0 hp d_Fon_keep_15 f_Fon_15 ((va_up_ne _ _ hps).trans hC) rfl ?_
    refine V_iload_n d_Fon_keep_18 rfl ?_
    refine V_iload_n d_Fon_keep_19 rfl ?_
    refine V_iast d_Fon_keep_20 ((pM_p h0 hd9).trans (congrArg some ((va_up_ne _ _ hds).trans hD9))) (vp_in_nI (by omega) (by decide)) ?_
    rw [pM_set h0 hd9, nI_clamp (by omega)]
    exact V_return d_Fon_keep_21 rfl ⟨rfl, rfl⟩
