/-! PageFile.ship and finish: what they throw -/
set_option maxRecDepth 100000 in
set_option maxHeartbeats 400000 in
theorem PF_ship_a {l : Launch} {D : va_G} {ac : Nat → ClassId} {adr : Nat → Nat} {s : PS} {Z M : MP} (hW : PW ac adr s Z M) (hno : ∀ e, l.admits e → e.platform.stackTraces = false) {x : Int32} {k n : Nat} (hc : ¬ s.1 11 = 0 ∨ boV s x = none) : V l D (tyl ac) t_PF_ship (k + 1) (n + 6) 0 (lv_args 0 [.ref (adr 0), .int x]) [] M (fun r M' => r = none ∧ PW ac adr s Z M') := by
  refine V_aload_n d_PF_ship_0 rfl (isr_ref _) ?_
  refine V_iload_n d_PF_ship_1 rfl ?_
  refine V_rd (As := [.int (x)]) (rest := []) (T := T_PF) (N := 12) (PW_c (p := 0) hW (by omega) (fun _ => rfl)) rfl d_PF_ship_2 c_PF_105 ⟨by decide, by decide⟩ rfl rfl (Nat.le_of_ble_eq_true rfl) (PF_boxOf hW _) ?_
  cases hbx : boV s x with
  | none =>
    refine V_astore_n (lv' := [(2, .null), (0, .ref (adr 0)), (1, .int x)]) d_PF_ship_5 (isr_null) (by decide) rfl ?_
    refine V_aload_n d_PF_ship_6 rfl (isr_ref _) ?_
    refine V_getf d_PF_ship_7 f_PF_126 (PW_c hW (by omega) (fun _ => rfl)) rfl ?_
    refine V_if_ne 17 d_PF_ship_10 (by decide) (fun h10 => ?_) (fun h10 => ?_)
    · exact V_throw true (k' := k) (n' := n) hno d_PF_ship_17 d_PF_ship_20 d_PF_ship_21 d_PF_ship_23 d_PF_ship_26 tw0_ise tw1_ise tw2_ise ts_131 rfl tw4_ise (by decide) (by decide) (by decide) (Nat.le_of_ble_eq_true rfl) rfl rfl ⟨rfl, hW⟩
    · refine V_aload_n d_PF_ship_13 rfl (isr_null) ?_
      refine V_ifnonnull 27 (isr_null) d_PF_ship_14 (by decide) (fun a14 h14 => ?_) (fun h14 => ?_)
      · cases h14
      · exact V_throw true (k' := k) (n' := n) hno d_PF_ship_17 d_PF_ship_20 d_PF_ship_21 d_PF_ship_23 d_PF_ship_26 tw0_ise tw1_ise tw2_ise ts_131 rfl tw4_ise (by decide) (by decide) (by decide) (Nat.le_of_ble_eq_true rfl) rfl rfl ⟨rfl, hW⟩
  | some p =>
    refine V_astore_n (lv' := [(2, .ref p), (0, .ref (adr 0)), (1, .int x)]) d_PF_ship_5 (isr_ref _) (by decide) rfl ?_
    refine V_aload_n d_PF_ship_6 rfl (isr_ref _) ?_
    refine V_getf d_PF_ship_7 f_PF_126 (PW_c hW (by omega) (fun _ => rfl)) rfl ?_
    refine V_if_ne 17 d_PF_ship_10 (by decide) (fun h10 => ?_) (fun h10 => ?_)
    · exact V_throw true (k' := k) (n' := n) hno d_PF_ship_17 d_PF_ship_20 d_PF_ship_21 d_PF_ship_23 d_PF_ship_26 tw0_ise tw1_ise tw2_ise ts_131 rfl tw4_ise (by decide) (by decide) (by decide) (Nat.le_of_ble_eq_true rfl) rfl rfl ⟨rfl, hW⟩
    · refine V_aload_n d_PF_ship_13 rfl (isr_ref _) ?_
      refine V_ifnonnull 27 (isr_ref _) d_PF_ship_14 (by decide) (fun a14 h14 => ?_) (fun h14 => ?_)
      · exact absurd hc (fun z => z.elim (fun y => h10 y) (fun y => by rw [hbx] at y; cases y))
      · cases h14
set_option maxRecDepth 100000 in
set_option maxHeartbeats 400000 in
theorem PF_ship_b {l : Launch} {D : va_G} {ac : Nat → ClassId} {adr : Nat → Nat} {s : PS} {Z M : MP} (hW : PW ac adr s Z M) (hno : ∀ e, l.admits e → e.platform.stackTraces = false) {x : Int32} {k n : Nat} (he : s.1 11 = 0) {q : Nat} (hbx : boV s x = some q) (hfl : 200000 ≤ (xF s).1) : V l D (tyl ac) t_PF_ship (k + 1) (n + 6) 0 (lv_args 0 [.ref (adr 0), .int x]) [] M (fun r M' => r = some .null ∧ PW ac adr s Z M') := by
  obtain ⟨ra, hb⟩ := PW_len hW
  have g2 := p2_11 (PW_ok hW).2.2
  have g3 := (PW_ok hW).2.1
  refine V_aload_n d_PF_ship_0 rfl (isr_ref _) ?_
  refine V_iload_n d_PF_ship_1 rfl ?_
  refine V_rd (As := [.int (x)]) (rest := []) (T := T_PF) (N := 12) (PW_c (p := 0) hW (by omega) (fun _ => rfl)) rfl d_PF_ship_2 c_PF_105 ⟨by decide, by decide⟩ rfl rfl (Nat.le_of_ble_eq_true rfl) (PF_boxOf hW _) ?_
  rw [hbx]
  refine V_astore_n (lv' := [(2, .ref q), (0, .ref (adr 0)), (1, .int x)]) d_PF_ship_5 (isr_ref _) (by decide) rfl ?_
  refine V_aload_n d_PF_ship_6 rfl (isr_ref _) ?_
  refine V_getf d_PF_ship_7 f_PF_126 (PW_c hW (by omega) (fun _ => rfl)) rfl ?_
  refine V_if_ne 17 d_PF_ship_10 (by decide) (fun h10 => ?_) (fun h10 => ?_)
  · exact absurd he h10
  · refine V_aload_n d_PF_ship_13 rfl (isr_ref _) ?_
    refine V_ifnonnull 27 (isr_ref _) d_PF_ship_14 (by decide) (fun a14 h14 => ?_) (fun h14 => ?_)
    · refine V_aload_n d_PF_ship_27 rfl (isr_ref _) ?_
      refine V_getf d_PF_ship_28 f_PF_26 (PW_c hW (by omega) (fun _ => rfl)) rfl ?_
      refine V_getfN d_PF_ship_31 f_PF_136 (hb) rfl ?_
      refine V_ldc d_PF_ship_34 k_PF_141 ?_
      refine V_icmp_lt 49 d_PF_ship_36 (by decide) (fun h36 => ?_) (fun h36 => ?_)
      · exact absurd (show nI (xF s).1 < nI 200000 from h36) (nI_nlt hfl (by omega))
      · exact V_throw false (k' := k) (n' := n) hno d_PF_ship_39 d_PF_ship_42 d_PF_ship_43 d_PF_ship_45 d_PF_ship_48 tw0_uoe tw1_uoe tw2_uoe ts_144 rfl tw4_uoe (by decide) (by decide) (by decide) (Nat.le_of_ble_eq_true rfl) rfl rfl ⟨rfl, hW⟩
    · cases h14
def shS (s : PS) (k : Nat) (it : Int32) : PS := uF (drS s k it) (fwr (xF s) (bgL (xF s).1 ++ hdL s))
def shQ (ac : Nat → ClassId) (adr : Nat → Nat) (s sE : PS) (Z : MP) (w h d : Int32) : Option Value → MP → Prop := fun r M' => ∃ adr' : Nat → Nat, (∀ p, p < 9 + 3 * xN s → adr' p = adr p) ∧ ((sE.1 27 = 0 ∧ r = some (.int (nI ((xF sE).1 + 1))) ∧ PW ac adr' (wpG (uF sE (fadd (xF sE) 140 1)) (nI (fwr (xF s) (bgL (xF s).1)).1) w h d) Z M') ∨ (¬ sE.1 27 = 0 ∧ r = some .null ∧ PW ac adr' (wpB sE (xF s).1 (s.1 30)) Z M'))
theorem hdL_dr (s : PS) (k : Nat) (it : Int32) : hdL (drS s k it) = hdL s := rfl
set_option maxRecDepth 100000 in
set_option maxHeartbeats 400000 in
theorem PF_ship_c {l : Launch} {D : va_G} {ac : Nat → ClassId} {adr : Nat → Nat} {s : PS} {Z M : MP} {jE : Nat} (hW : PW ac adr s Z M) (hno : ∀ e, l.admits e → e.platform.stackTraces = false) {x : Int32} (he : s.1 11 = 0) {q : Nat} (hbx : boV s x = some q) (hfl : (xF s).1 < 200000) {v w h d it ne : Int32} {fo : Option Nat} (hB : Z q = some (.inr (1, bxv v w h d (va_rf fo) it ne))) (hz : isz1 v) (hN0 : 0 < xN s) {nE : Nat} {sE : PS} (hr : pRun Z (shS s x.toNatClampNeg it) v w h d fo sE) (hj : (F9 sE).2.1 ≤ jE) (hn : (fadd (xF sE) 140 1).1 ≤ 500000) (hN : xN sE + 1 ≤ nE) : V l D (tyl ac) t_PF_ship (bk jE (xF s) (3 * (nE - xN s))) (bs jE (xF s) (23 * (nE - xN s))) 0 (lv_args 0 [.ref (adr 0), .int x]) [] M (shQ ac adr s sE Z w h d) := by
  obtain ⟨ra, hb⟩ := PW_len hW
  have g2 := p2_11 (PW_ok hW).2.2
  have g3 := (PW_ok hW).2.1
  refine V_aload_n d_PF_ship_0 rfl (isr_ref _) ?_
  refine V_iload_n d_PF_ship_1 rfl ?_
  refine V_rd (As := [.int (x)]) (rest := []) (T := T_PF) (N := 12) (PW_c (p := 0) hW (by omega) (fun _ => rfl)) rfl d_PF_ship_2 c_PF_105 ⟨by decide, by decide⟩ rfl rfl (Nat.le_of_ble_eq_true rfl) (PF_boxOf hW _) ?_
  rw [hbx]
  refine V_astore_n (lv' := [(2, .ref q), (0, .ref (adr 0)), (1, .int x)]) d_PF_ship_5 (isr_ref _) (by decide) rfl ?_
  refine V_aload_n d_PF_ship_6 rfl (isr_ref _) ?_
  refine V_getf d_PF_ship_7 f_PF_126 (PW_c hW (by omega) (fun _ => rfl)) rfl ?_
  refine V_if_ne 17 d_PF_ship_10 (by decide) (fun h10 => ?_) (fun h10 => ?_)
  · exact absurd he h10
  · refine V_aload_n d_PF_ship_13 rfl (isr_ref _) ?_
    refine V_ifnonnull 27 (isr_ref _) d_PF_ship_14 (by decide) (fun a14 h14 => ?_) (fun h14 => ?_)
    · refine V_aload_n d_PF_ship_27 rfl (isr_ref _) ?_
      refine V_getf d_PF_ship_28 f_PF_26 (PW_c hW (by omega) (fun _ => rfl)) rfl ?_
      refine V_getfN d_PF_ship_31 f_PF_136 (hb) rfl ?_
      refine V_ldc d_PF_ship_34 k_PF_141 ?_
      refine V_icmp_lt 49 d_PF_ship_36 (by decide) (fun h36 => ?_) (fun h36 => ?_)
      · obtain ⟨m, hm, rfl, hm2⟩ := boV_ex hbx
        rw [nI_clamp (by omega)] at hr
        refine V_aload_n d_PF_ship_49 rfl (isr_ref _) ?_
        refine V_iload_n d_PF_ship_50 rfl ?_
        refine V_c0 (As := [.int (nI m)]) (rest := []) (T := T_PF) (N := 12) (PW_c (p := 0) hW (by omega) (fun _ => rfl)) rfl d_PF_ship_51 c_PF_101 ⟨by decide, by decide⟩ rfl rfl (Nat.le_of_ble_eq_true rfl) (PF_dropBox1 hW hm hm2 hB) (fun r M1 hq9 => ?_)
        obtain ⟨rfl, hW⟩ := hq9
        refine V_aload_n d_PF_ship_54 rfl (isr_ref _) ?_
        refine V_aload_n d_PF_ship_55 rfl (isr_ref _) ?_
        have hle := pRun_le (s := shS s m it) hN0 hr
        have hle2 := FLe_9 sE
        have hle3 := FLe_w (xF s) (bgL (xF s).1 ++ hdL s)
        refine VW_callF (F := xF s) (F' := F9 sE) (n0 := xN s) (n1 := xN sE) (nE := nE) (As := [.ref q]) (rest := []) (T' := T_PF) (Nn := 12) (FLe_tr hle3 (FLe_tr hle.1 hle2)) hle.2 (by omega) hj (PW_c (p := 0) hW (by omega) (fun _ => rfl)) rfl d_PF_ship_56 c_PF_147 ⟨by decide, by decide⟩ rfl rfl (Nat.le_of_ble_eq_true rfl) (PF_writePage (s := drS s m it) hW hB hz hN0 hr (Nat.le_refl _) hn (Nat.le_refl _)) (fun r M1 hq9 => ?_)
        obtain ⟨adr', ha9, hq9⟩ := hq9
        have e0 : adr' 0 = adr 0 := ha9 0 (by omega)
        rcases hq9 with ⟨hg, rfl, hW⟩ | ⟨hg, rfl, hW⟩
        · refine V_if_ne 72 d_PF_ship_59 (by decide) (fun h59 => ?_) (fun h59 => absurd (show ¬ (1 : Int32) = 0 by decide) h59)
          obtain ⟨ra2, hb2⟩ := PW_len hW
          rw [← e0]
          refine V_aload_n d_PF_ship_72 rfl (isr_ref _) ?_
          refine V_getf d_PF_ship_73 f_PF_26 (PW_c (p := 0) hW (show 0 < 9 + 3 * xN sE by omega) (fun _ => rfl)) rfl ?_
          refine V_getfN d_PF_ship_76 f_PF_136 (hb2) rfl ?_
          exact V_ireturn d_PF_ship_79 rfl ⟨adr', ha9, Or.inl ⟨hg, rfl, hW⟩⟩
        · refine V_if_ne 72 d_PF_ship_59 (by decide) (fun h59 => absurd rfl h59) (fun h59 => ?_)
          exact V_throw false (k' := bk jE (F9 sE) (3 * (nE - xN sE)) - 1) (n' := bs jE (F9 sE) (23 * (nE - xN sE)) - 6) hno d_PF_ship_62 d_PF_ship_65 d_PF_ship_66 d_PF_ship_68 d_PF_ship_71 tw0_uoe tw1_uoe tw2_uoe ts_151 rfl tw4_uoe (by decide) (by decide) (by decide) (Nat.le_of_ble_eq_true rfl) (by unfold bk; omega) (by unfold bs; omega) ⟨adr', ha9, Or.inr ⟨hg, rfl, hW⟩⟩
      · exact absurd (show nI (xF s).1 < nI 200000 from nI_lt hfl (by decide)) h36
    · cases h14
set_option maxRecDepth 100000 in
set_option maxHeartbeats 400000 in
theorem PF_finish_a {l : Launch} {D : va_G} {ac : Nat → ClassId} {adr : Nat → Nat} {s : PS} {Z M : MP} (hW : PW ac adr s Z M) (hno : ∀ e, l.admits e → e.platform.stackTraces = false) {k n : Nat} (he : ¬ s.1 11 = 0) : V l D (tyl ac) t_PF_finish (k + 1) (n + 6) 0 (lv_args 0 [.ref (adr 0)]) [] M (fun r M' => r = none ∧ PW ac adr s Z M') := by
  refine V_aload_n d_PF_finish_0 rfl (isr_ref _) ?_
  refine V_getf d_PF_finish_1 f_PF_126 (PW_c hW (by omega) (fun _ => rfl)) rfl ?_
  refine V_if_eq 17 d_PF_finish_4 (by decide) (fun h4 => ?_) (fun h4 => ?_)
  · exact absurd h4 he
  · exact V_throw true (k' := k) (n' := n) hno d_PF_finish_7 d_PF_finish_10 d_PF_finish_11 d_PF_finish_13 d_PF_finish_16 tw0_ise tw1_ise tw2_ise ts_153 rfl tw4_ise (by decide) (by decide) (by decide) (Nat.le_of_ble_eq_true rfl) rfl rfl ⟨rfl, hW⟩
