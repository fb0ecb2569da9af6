/-! PageWriter.writeBox; PageFile's readers -/
theorem Trk_restartW0 {l : Launch} {D : va_G} {ac : Nat → ClassId} {adr : Nat → Nat} {s : PS} {Z M : MP} (hW : PW ac adr s Z M) : Ct l D (tyl ac) t_Trk_restart 0 0 [.ref (adr 4)] M (fun r M' => r = none ∧ PW ac adr (uT s 0 (0, 0, 0, false)) Z M') := by
  obtain ⟨ra, N, h0, hR, hZ, hk, rfl⟩ := hW
  refine Ct_mono (Trk_restart h0 (p := 4) (List.mem_range.mpr (by omega)) rfl) (fun r M' hq => ?_)
  obtain ⟨rfl, rfl⟩ := hq
  refine ⟨rfl, ra, N, h0, hR, hZ, hk, ?_⟩
  rw [← pC_t0]
  rfl
theorem Trk_restartW1 {l : Launch} {D : va_G} {ac : Nat → ClassId} {adr : Nat → Nat} {s : PS} {Z M : MP} (hW : PW ac adr s Z M) : Ct l D (tyl ac) t_Trk_restart 0 0 [.ref (adr 5)] M (fun r M' => r = none ∧ PW ac adr (uT s 1 (0, 0, 0, false)) Z M') := by
  obtain ⟨ra, N, h0, hR, hZ, hk, rfl⟩ := hW
  refine Ct_mono (Trk_restart h0 (p := 5) (List.mem_range.mpr (by omega)) rfl) (fun r M' hq => ?_)
  obtain ⟨rfl, rfl⟩ := hq
  refine ⟨rfl, ra, N, h0, hR, hZ, hk, ?_⟩
  rw [← pC_t1]
  rfl
def wbs0 (s : PS) : PS := uI (uI (uI (uT (uT s 0 (0, 0, 0, false)) 1 (0, 0, 0, false)) 25 (-1)) 26 0) 27 0
def wbs1 (s : PS) (v w h d : Int32) (fo : Option Nat) : PS := enS (mvS (wbs0 s) 0 h) 0 v w h d fo
def wbL (s : PS) (h : Int32) : List (Int32 × Nat) := mvL (wbs0 s) 0 h ++ [(141, 1)]
theorem wbs0_F (s : PS) : xF (wbs0 s) = xF s := rfl
theorem wbs0_N (s : PS) : xN (wbs0 s) = xN s := rfl
theorem enS_F (s : PS) (i : Nat) (v w h d : Int32) (fo : Option Nat) : xF (enS s i v w h d fo) = fwr (xF s) [(141, 1)] := rfl
theorem wbs1_F (s : PS) (v w h d : Int32) (fo : Option Nat) : xF (wbs1 s v w h d fo) = fwr (xF s) (wbL s h) := by
  unfold wbs1 wbL
  rw [enS_F, mvS_F, wbs0_F, fwr_app]
theorem wbs1_N (s : PS) (v w h d : Int32) (fo : Option Nat) : xN (wbs1 s v w h d fo) = xN s := by
  unfold wbs1
  rw [enS_N, mvS_N, wbs0_N]
/-- the whole page: none: an empty box -/
def pRun (Z : MP) (s : PS) (v w h d : Int32) (fo : Option Nat) (sE : PS) : Prop := match fo with
  | none => sE = wbs0 s
  | some c => ∃ n, n ≤ 12000 ∧ cRun Z n (wbs1 s v w h d (some c)) 0 sE
set_option maxRecDepth 100000 in
set_option maxHeartbeats 400000 in
theorem PgW_writeBox {l : Launch} {D : va_G} {ac : Nat → ClassId} {adr : Nat → Nat} {s : PS} {Z M : MP} {jE : Nat} (hW : PW ac adr s Z M) {b nE : Nat} {v w h d it ne : Int32} {fo : Option Nat} {sE : PS} (hB : Z b = some (.inr (1, bxv v w h d (va_rf fo) it ne))) (hz : isz1 v) (hN0 : 0 < xN s) (hr : pRun Z s v w h d fo sE) (hj9 : (xF sE).2.1 ≤ jE) (hn9 : (xF sE).1 ≤ 500000) (hN9 : xN sE ≤ nE) : Ct l D (tyl ac) t_PgW_writeBox (bk jE (xF s) (3 * (nE - xN s))) (bs jE (xF s) (23 * (nE - xN s))) [.ref (adr 1), .ref b] M (wbQ ac adr (9 + 3 * xN s) sE Z) := by
  have hN1 := hN0
  cases fo with
  | none =>
    refine Ct_of (by decide) (Nat.le_of_ble_eq_true rfl) ?_
    refine V_aload_n d_PgW_writeBox_0 rfl (isr_ref _) ?_
    refine V_getf d_PgW_writeBox_1 f_PgW_30 (PW_c hW (by omega) (fun _ => rfl)) rfl ?_
    refine V_c0 (As := []) (rest := []) (T := T_Trk) (N := 5) (PW_c (p := 4) hW (by omega) (fun _ => rfl)) rfl d_PgW_writeBox_4 c_PgW_46 ⟨by decide, by decide⟩ rfl rfl (Nat.le_of_ble_eq_true rfl) (Trk_restartW0 hW) (fun r M1 hq9 => ?_)
    obtain ⟨rfl, hW⟩ := hq9
    refine V_aload_n d_PgW_writeBox_7 rfl (isr_ref _) ?_
    refine V_getf d_PgW_writeBox_8 f_PgW_34 (PW_c hW (by omega) (fun _ => rfl)) rfl ?_
    refine V_c0 (As := []) (rest := []) (T := T_Trk) (N := 5) (PW_c (p := 5) hW (by omega) (fun _ => rfl)) rfl d_PgW_writeBox_11 c_PgW_46 ⟨by decide, by decide⟩ rfl rfl (Nat.le_of_ble_eq_true rfl) (Trk_restartW1 hW) (fun r M1 hq9 => ?_)
    obtain ⟨rfl, hW⟩ := hq9
    refine V_aload_n d_PgW_writeBox_14 rfl (isr_ref _) ?_
    refine V_iconst (v := (-1)) d_PgW_writeBox_15 (by decide) ?_
    refine VW_put hW (by omega) d_PgW_writeBox_16 f_PgW_49 (fun _ => rfl) (rfl) (rfl) (Nat.le_of_ble_eq_true rfl) (fun _ => pC_w25 _) rfl rfl (fun M1 hW => ?_)
    refine V_aload_n d_PgW_writeBox_19 rfl (isr_ref _) ?_
    refine V_iconst (v := 0) d_PgW_writeBox_20 (by decide) ?_
    refine VW_put hW (by omega) d_PgW_writeBox_21 f_PgW_53 (fun _ => rfl) (rfl) (rfl) (Nat.le_of_ble_eq_true rfl) (fun _ => pC_w26 _) rfl rfl (fun M1 hW => ?_)
    refine V_aload_n d_PgW_writeBox_24 rfl (isr_ref _) ?_
    refine V_iconst (v := 0) d_PgW_writeBox_25 (by decide) ?_
    refine VW_put hW (by omega) d_PgW_writeBox_26 f_PgW_56 (fun _ => rfl) (by decide) (by decide) (Nat.le_of_ble_eq_true rfl) (fun _ => pC_w27 _) rfl rfl (fun M1 hW => ?_)
    have hW : PW ac adr (wbs0 s) Z M1 := hW
    refine V_aload_n d_PgW_writeBox_29 rfl (isr_ref _) ?_
    refine V_getf d_PgW_writeBox_30 f_PgW_60 (PW_z hW hB) rfl ?_
    refine V_ifnonnull 38 (isr_null) d_PgW_writeBox_33 (by decide) (fun a33 h33 => ?_) (fun h33 => ?_)
    · cases h33
    · refine V_iconst (v := 1) d_PgW_writeBox_36 (by decide) ?_
      exact V_zreturn d_PgW_writeBox_37 rfl nz1 ⟨adr, fun _ _ => rfl, by rw [show sE = wbs0 s from hr]; rfl, by rw [show sE = wbs0 s from hr]; exact hW⟩
  | some c =>
    refine Ct_of (by decide) (Nat.le_of_ble_eq_true rfl) ?_
    refine V_aload_n d_PgW_writeBox_0 rfl (isr_ref _) ?_
    refine V_getf d_PgW_writeBox_1 f_PgW_30 (PW_c hW (by omega) (fun _ => rfl)) rfl ?_
    refine V_c0 (As := []) (rest := []) (T := T_Trk) (N := 5) (PW_c (p := 4) hW (by omega) (fun _ => rfl)) rfl d_PgW_writeBox_4 c_PgW_46 ⟨by decide, by decide⟩ rfl rfl (Nat.le_of_ble_eq_true rfl) (Trk_restartW0 hW) (fun r M1 hq9 => ?_)
    obtain ⟨rfl, hW⟩ := hq9
    refine V_aload_n d_PgW_writeBox_7 rfl (isr_ref _) ?_
    refine V_getf d_PgW_writeBox_8 f_PgW_34 (PW_c hW (by omega) (fun _ => rfl)) rfl ?_
    refine V_c0 (As := []) (rest := []) (T := T_Trk) (N := 5) (PW_c (p := 5) hW (by omega) (fun _ => rfl)) rfl d_PgW_writeBox_11 c_PgW_46 ⟨by decide, by decide⟩ rfl rfl (Nat.le_of_ble_eq_true rfl) (Trk_restartW1 hW) (fun r M1 hq9 => ?_)
    obtain ⟨rfl, hW⟩ := hq9
    refine V_aload_n d_PgW_writeBox_14 rfl (isr_ref _) ?_
    refine V_iconst (v := (-1)) d_PgW_writeBox_15 (by decide) ?_
    refine VW_put hW (by omega) d_PgW_writeBox_16 f_PgW_49 (fun _ => rfl) (rfl) (rfl) (Nat.le_of_ble_eq_true rfl) (fun _ => pC_w25 _) rfl rfl (fun M1 hW => ?_)
    refine V_aload_n d_PgW_writeBox_19 rfl (isr_ref _) ?_
    refine V_iconst (v := 0) d_PgW_writeBox_20 (by decide) ?_
    refine VW_put hW (by omega) d_PgW_writeBox_21 f_PgW_53 (fun _ => rfl) (rfl) (rfl) (Nat.le_of_ble_eq_true rfl) (fun _ => pC_w26 _) rfl rfl (fun M1 hW => ?_)
    refine V_aload_n d_PgW_writeBox_24 rfl (isr_ref _) ?_
    refine V_iconst (v := 0) d_PgW_writeBox_25 (by decide) ?_
    refine VW_put hW (by omega) d_PgW_writeBox_26 f_PgW_56 (fun _ => rfl) (by decide) (by decide) (Nat.le_of_ble_eq_true rfl) (fun _ => pC_w27 _) rfl rfl (fun M1 hW => ?_)
    have hW : PW ac adr (wbs0 s) Z M1 := hW
    refine V_aload_n d_PgW_writeBox_29 rfl (isr_ref _) ?_
    refine V_getf d_PgW_writeBox_30 f_PgW_60 (PW_z hW hB) rfl ?_
    refine V_ifnonnull 38 (isr_ref _) d_PgW_writeBox_33 (by decide) (fun a33 h33 => ?_) (fun h33 => ?_)
    · obtain ⟨n, hn, hr⟩ := hr
      have hcl := cRun_le n (by rw [wbs1_N]; exact hN0) hr
      rw [wbs1_F, wbs1_N] at hcl
      have hE := FE_le hcl.1 hj9 hn9
      unfold wbL at hE
      rw [← wbs0_F s] at hE ⊢
      rw [← wbs0_N s] at hcl hN0 ⊢
      refine V_aload_n d_PgW_writeBox_38 rfl (isr_ref _) ?_
      refine V_iconst (v := 0) d_PgW_writeBox_39 (by decide) ?_
      refine V_aload_n d_PgW_writeBox_40 rfl (isr_ref _) ?_
      refine V_getf d_PgW_writeBox_41 f_PgW_66 (PW_z hW hB) rfl ?_
      refine VW_call (L1 := mvL (wbs0 s) 0 h) (As := [.int 0, .int h]) (rest := []) (T' := T_PgW) (Nn := 8) [(141, 1)] hE (PW_c (p := 1) hW (by omega) (fun _ => rfl)) rfl d_PgW_writeBox_44 c_PgW_69 ⟨by decide, by decide⟩ rfl rfl (Nat.le_of_ble_eq_true rfl) (fun hE => PgW_moveTo hW hE) (fun r M1 hq9 hE => ?_)
      obtain ⟨rfl, hW⟩ := hq9
      rw [← mvS_F] at hE ⊢
      rw [← mvS_N (wbs0 s) 0 h] at hN0
      refine V_aload_n d_PgW_writeBox_47 rfl (isr_ref _) ?_
      refine V_aload_n d_PgW_writeBox_48 rfl (isr_ref _) ?_
      refine V_getf d_PgW_writeBox_49 f_PgW_42 (PW_c hW (by omega) (fun _ => rfl)) rfl ?_
      refine V_aload_n d_PgW_writeBox_52 rfl (isr_ref _) ?_
      refine VW_call (L1 := [(141, 1)]) (As := [.ref (adr (9 + 3 * 0)), .ref b]) (rest := []) (T' := T_PgW) (Nn := 8) [] (FE_0 hE) (PW_c (p := 1) hW (by omega) (fun _ => rfl)) rfl d_PgW_writeBox_53 c_PgW_73 ⟨by decide, by decide⟩ rfl rfl (Nat.le_of_ble_eq_true rfl) (fun hE => PgW_enter hW hN0 hB hz hE) (fun r M1 hq9 hE => ?_)
      obtain ⟨rfl, hW⟩ := hq9
      rw [← enS_F (mvS (wbs0 s) 0 h) 0 v w h d (some c)]
      refine V_astore_n (lv' := [(2, .ref (adr (9 + 3 * 0))), (0, .ref (adr 1)), (1, .ref b)]) d_PgW_writeBox_56 (isr_ref _) (by decide) rfl ?_
      refine V_iconst (v := nI 0) d_PgW_writeBox_57 (by decide) ?_
      refine V_istore_n (lv' := [(3, .int (nI 0)), (2, .ref (adr (9 + 3 * 0))), (0, .ref (adr 1)), (1, .ref b)]) d_PgW_writeBox_58 (by decide) rfl ?_
      refine V_lv [2, 3, 1, 0] rfl ?_
      have hW : PW ac adr (wbs1 s v w h d (some c)) Z M1 := hW
      rw [show enS (mvS (wbs0 s) 0 h) 0 v w h d (some c) = wbs1 s v w h d (some c) from rfl]
      have e1 : xN (wbs0 s) = xN (wbs1 s v w h d (some c)) := by rw [wbs1_N, wbs0_N]
      rw [e1]
      exact wB_59 hj9 hn9 hN9 n (wbs1 s v w h d (some c)) 0 0 M1 adr hW hr (by omega) (by rw [wbs1_N]; exact hN1) (by rw [wbs1_N]; exact Nat.le_refl _) (fun _ _ => rfl)
    · cases h33
theorem wbz (sE : PS) (h : sE.1 27 = 0) : (if sE.1 27 = 0 then (1 : Int32) else 0) = 1 := if_pos h
set_option maxRecDepth 100000 in
set_option maxHeartbeats 4000000 in
theorem Byt_getW {l : Launch} {D : va_G} {ac : Nat → ClassId} {adr : Nat → Nat} {s : PS} {Z M : MP} (hW : PW ac adr s Z M) (x : Int32) : Ct l D (tyl ac) t_Byt_get 0 0 [.ref (adr 2), .int x] M (PQ (some (.int (byg (xF s).2.2 (xF s).1 x))) M) := by
  refine Ct_of (by decide) (Nat.le_of_ble_eq_true rfl) ?_
  have hL := hW
  obtain ⟨ra, N, h0, hR, hZ, hk, rfl⟩ := hL
  have hb : pM (List.range (9 + 3 * xN s)) adr (pC ac adr ra s) N (adr 2) = some (byO ra (xF s).1) := pM_p h0 (List.mem_range.mpr (by omega))
  have g2 := p2_11 hk.2.2
  have g3 := hk.2.1
  refine V_iload_n d_Byt_get_0 rfl ?_
  refine V_if_lt 25 d_Byt_get_1 (by decide) (fun h1 => ?_) (fun h1 => ?_)
  · refine V_iconst (v := (-1)) d_Byt_get_25 (by decide) ?_
    exact V_ireturn d_Byt_get_26 rfl ⟨by rw [byg, if_neg (fun z => z.1 h1)], rfl⟩
  · refine V_iload_n d_Byt_get_4 rfl ?_
    refine V_aload_n d_Byt_get_5 rfl (isr_ref _) ?_
    refine V_getf d_Byt_get_6 f_Byt_15 (hb) rfl ?_
    refine V_icmp_ge 25 d_Byt_get_9 (by decide) (fun h9 => ?_) (fun h9 => ?_)
    · refine V_iconst (v := (-1)) d_Byt_get_25 (by decide) ?_
      exact V_ireturn d_Byt_get_26 rfl ⟨by rw [byg, if_neg (fun z => absurd h9 (Int32.not_le.mpr z.2))], rfl⟩
    · have hlt := Int32.not_le.mp h9
      obtain ⟨m, hm, rfl⟩ := nI_n (show (xF s).1 < 2 ^ 31 by omega) h1 hlt
      refine V_aload_n d_Byt_get_12 rfl (isr_ref _) ?_
      refine V_getf d_Byt_get_13 f_Byt_9 (hb) rfl ?_
      refine V_iload_n d_Byt_get_16 rfl ?_
      refine V_bald d_Byt_get_17 (pM_n h0 hR) (vp_in_nI (by omega) (by omega)) ?_
      refine V_sipush (v := 255) d_Byt_get_18 (by decide) ?_
      refine V_iand d_Byt_get_21 ?_
      refine V_goto 26 d_Byt_get_22 (by decide) ?_
      exact V_ireturn d_Byt_get_26 rfl ⟨by rw [byg, if_pos ⟨h1, hlt⟩], rfl⟩
set_option maxRecDepth 100000 in
set_option maxHeartbeats 4000000 in
theorem Byt_cutToW {l : Launch} {D : va_G} {ac : Nat → ClassId} {adr : Nat → Nat} {s : PS} {Z M : MP} (hW : PW ac adr s Z M) {m : Nat} (hm : m < 2 ^ 31) : Ct l D (tyl ac) t_Byt_cutTo 0 0 [.ref (adr 2), .int (nI m)] M (fun r M' => r = none ∧ PW ac adr (uF s (if m < (xF s).1 then m else (xF s).1, (xF s).2)) Z M') := by
  refine Ct_of (by decide) (Nat.le_of_ble_eq_true rfl) ?_
  obtain ⟨ra, N, h0, hR, hZ, hk, rfl⟩ := hW
  have g2 := p2_11 hk.2.2
  have g3 := hk.2.1
  refine V_iload_n d_Byt_cutTo_0 rfl ?_
  refine V_if_lt 17 d_Byt_cutTo_1 (by decide) (fun h1 => ?_) (fun h1 => ?_)
  · exact absurd h1 (nI_pos (by omega))
  · refine V_iload_n d_Byt_cutTo_4 rfl ?_
    refine V_aload_n d_Byt_cutTo_5 rfl (isr_ref _) ?_
    refine VP_get (p := 2) h0 (List.mem_range.mpr (by omega)) d_Byt_cutTo_6 f_Byt_15 (show pC ac adr ra s 2 = .inr (2, [.ref ra, .int (nI (xF s).1)]) from rfl) rfl ?_
    refine V_icmp_ge 17 d_Byt_cutTo_9 (by decide) (fun h9 => ?_) (fun h9 => ?_)
    · have hm2 : ¬ m < (xF s).1 := fun z => absurd h9 (nI_ge z (by omega))
      exact V_return d_Byt_cutTo_17 rfl ⟨rfl, by rw [if_neg hm2]; exact ⟨ra, N, h0, hR, hZ, hk, rfl⟩⟩
    · have hm2 : m < (xF s).1 := by
        rcases Nat.lt_or_ge m (xF s).1 with z | z
        · exact z
        · exact absurd (nI_le z (by omega)) h9
      refine V_aload_n d_Byt_cutTo_12 rfl (isr_ref _) ?_
      refine V_iload_n d_Byt_cutTo_13 rfl ?_
      refine VP_put (p := 2) h0 (List.mem_range.mpr (by omega)) d_Byt_cutTo_14 f_Byt_15 (show pC ac adr ra s 2 = .inr (2, [.ref ra, .int (nI (xF s).1)]) from rfl) rfl rfl (Nat.le_of_ble_eq_true rfl) ?_
      exact V_return d_Byt_cutTo_17 rfl ⟨rfl, by rw [if_pos hm2]; exact ⟨ra, N, h0, hR, hZ, ⟨hk.1, Nat.le_trans (Nat.le_of_lt hm2) hk.2.1, hk.2.2⟩, congrArg (fun C => pM (List.range (9 + 3 * xN s)) adr C N) (pC_fl (m, (xF s).2))⟩⟩
