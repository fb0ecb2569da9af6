/-! PageFile.writePage -/
theorem VW_callF {l : Launch} {D : va_G} {ac : Nat → ClassId} {t t' : MT} {pc i : Nat} {lv : List (Nat × Value)} {rest : List Value} {M : MP} {Q : Option Value → MP → Prop} {na b : Nat} {As st : List Value} {ci Nn : Nat} {T' : u_T} {fs : List Value} {jE n0 n1 nE : Nat} {F F' : FI} {Q' : Option Value → MP → Prop} (hF : FLe F F') (h01 : n0 ≤ n1) (h1E : n1 ≤ nE) (hj : F'.2.1 ≤ jE) (ha : M b = some (.inr (ci, fs))) (hcl : cls[ci]? = some (t'.1.cls, T', Nn)) (hd : decode t.2.1 pc = .ok (.invokevirtual i, 3)) (ok : OKV t.1.cls i t' na) (hR : rmf t t') (hna : As.length = na) (hst : st = As.reverse ++ .ref b :: rest) (hW9 : (rest.map fun v => v.category).sum ≤ 8) (ct : Ct l D (tyl ac) t' (bk F'.2.1 F (3 * (n1 - n0))) (bs F'.2.1 F (23 * (n1 - n0))) (.ref b :: As) M Q') (h : ∀ r M', Q' r M' → V l D (tyl ac) t (bk jE F' (3 * (nE - n1))) (bs jE F' (23 * (nE - n1))) (pc + 3) lv (r.toList ++ rest) M' Q) : V l D (tyl ac) t (bk jE F (3 * (nE - n0))) (bs jE F (23 * (nE - n0))) pc lv st M Q := by
  have e1 := hF.1
  have e3 := fw_mono e1
  have e4 := fw_mono hj
  exact V_callV (As := As) (rest := rest) (k' := bk jE F' (3 * (nE - n1))) (n' := bs jE F' (23 * (nE - n1))) ha hcl hd ok hR hna hst hW9 (by unfold bk; omega) (by unfold bs; omega) ct h
theorem pRun_le {Z : MP} {s : PS} {v w h d : Int32} {fo : Option Nat} {sE : PS} (hN0 : 0 < xN s) (hr : pRun Z s v w h d fo sE) : FLe (xF s) (xF sE) ∧ xN s ≤ xN sE := by
  cases fo with
  | none =>
    have e : sE = wbs0 s := hr
    rw [e, wbs0_F, wbs0_N]
    exact ⟨FLe_rf _, Nat.le_refl _⟩
  | some c =>
    obtain ⟨n, _, hr⟩ := hr
    have h1 := cRun_le n (by rw [wbs1_N]; exact hN0) hr
    rw [wbs1_F, wbs1_N] at h1
    exact ⟨FLe_tr (FLe_w _ _) h1.1, h1.2⟩
def imx (x y : Int32) : Int32 := if x < y then y else x
def wpG (s : PS) (x w h d : Int32) : PS := uI (uI (uI (uI (uI s 6 (s.1 6 + 1)) 7 x) 8 (imx (s.1 8) (h + d))) 9 (imx (s.1 9) w)) 10 (imx (s.1 10) (s.1 26))
def cutF (F : FI) (n : Nat) : FI := (if n < F.1 then n else F.1, F.2)
def wpB (s : PS) (n : Nat) (u : Int32) : PS := uI (uF s (cutF (xF s) n)) 30 u
def zr (j : Nat) : List (Int32 × Nat) := List.replicate j (0, 4)
theorem zr_s (j : Nat) : zr (j + 1) = (0, 4) :: zr j := rfl
def hdL (s : PS) : List (Int32 × Nat) := (139, 1) :: (s.1 6 + 1, 4) :: (zr 9 ++ [(s.1 7, 4)])
def wpQ (ac : Nat → ClassId) (adr : Nat → Nat) (K0 : Nat) (sE : PS) (Z : MP) (x w h d : Int32) (n0 : Nat) (u0 : Int32) : Option Value → MP → Prop := fun r M' => ∃ adr' : Nat → Nat, (∀ p, p < K0 → adr' p = adr p) ∧ ((sE.1 27 = 0 ∧ r = some (.int 1) ∧ PW ac adr' (wpG (uF sE (fadd (xF sE) 140 1)) x w h d) Z M') ∨ (¬ sE.1 27 = 0 ∧ r = some (.int 0) ∧ PW ac adr' (wpB sE n0 u0) Z M'))
theorem FLe_add (F : FI) (v : Int32) (c : Nat) : FLe F (fadd F v c) := ⟨fadd_j F v c, Nat.le_add_right _ _⟩
/-- the file as far as it was really written -/
def F9 (sE : PS) : FI := if sE.1 27 = 0 then fadd (xF sE) 140 1 else xF sE
theorem FLe_9 (sE : PS) : FLe (xF sE) (F9 sE) := by
  unfold F9
  split
  · exact FLe_add _ _ _
  · exact FLe_rf _
theorem F9_g {sE : PS} {jE : Nat} (h : sE.1 27 = 0) (hj : (F9 sE).2.1 ≤ jE) : (fadd (xF sE) 140 1).2.1 ≤ jE := by
  unfold F9 at hj
  rw [if_pos h] at hj
  exact hj
set_option maxRecDepth 100000 in
set_option maxHeartbeats 400000 in
theorem wP_120 {l : Launch} {D : va_G} {ac : Nat → ClassId} {adr : Nat → Nat} {s : PS} {Z M : MP} {jE : Nat} (hW : PW ac adr s Z M) {b : Nat} {v w h d it ne : Int32} {fo : Option Nat} (hB : Z b = some (.inr (1, bxv v w h d (va_rf fo) it ne))) {x : Int32} {k9 n9 : Nat} (hE : FE (xF s) [(140, 1)] jE) {Q : Option Value → MP → Prop} (hQ : ∀ M', PW ac adr (wpG (uF s (fadd (xF s) 140 1)) x w h d) Z M' → Q (some (.int 1)) M') : V l D (tyl ac) t_PF_writePage (bk jE (xF s) k9) (bs jE (xF s) n9) 120 [(0, .ref (adr 0)), (1, .ref b), (4, .int x)] [] M Q := by
  refine V_aload_n d_PF_writePage_120 rfl (isr_ref _) ?_
  refine V_getf d_PF_writePage_121 f_PF_26 (PW_c hW (by omega) (fun _ => rfl)) rfl ?_
  refine V_sipush (v := 140) d_PF_writePage_124 (by decide) ?_
  refine V_iconst (v := nI 1) d_PF_writePage_127 (by decide) ?_
  refine VW_add (t := t_PF_writePage) hW [] hE (by decide) d_PF_writePage_128 c_PF_158 ⟨by decide, by decide⟩ (Nat.le_of_ble_eq_true rfl) (fun M1 hW => ?_)
  replace hE := FE_t hE
  refine V_aload_n d_PF_writePage_131 rfl (isr_ref _) ?_
  refine V_dup d_PF_writePage_132 rfl ?_
  refine V_getf d_PF_writePage_133 f_PF_174 (PW_c hW (by omega) (fun _ => rfl)) rfl ?_
  refine V_iconst (v := 1) d_PF_writePage_136 (by decide) ?_
  refine V_iadd d_PF_writePage_137 ?_
  refine VW_put hW (by omega) d_PF_writePage_138 f_PF_174 (fun _ => rfl) (rfl) (rfl) (Nat.le_of_ble_eq_true rfl) (fun _ => pC_i6 _) rfl rfl (fun M1 hW => ?_)
  refine V_aload_n d_PF_writePage_141 rfl (isr_ref _) ?_
  refine V_iload d_PF_writePage_142 rfl ?_
  refine VW_put hW (by omega) d_PF_writePage_144 f_PF_32 (fun _ => rfl) (rfl) (rfl) (Nat.le_of_ble_eq_true rfl) (fun _ => pC_i7 _) rfl rfl (fun M1 hW => ?_)
  refine V_aload_n d_PF_writePage_147 rfl (isr_ref _) ?_
  refine V_aload_n d_PF_writePage_148 rfl (isr_ref _) ?_
  refine V_getf d_PF_writePage_149 f_PF_165 (PW_c hW (by omega) (fun _ => rfl)) rfl ?_
  refine V_aload_n d_PF_writePage_152 rfl (isr_ref _) ?_
  refine V_getf d_PF_writePage_153 f_PF_113 (PW_z hW hB) rfl ?_
  refine V_aload_n d_PF_writePage_156 rfl (isr_ref _) ?_
  refine V_getf d_PF_writePage_157 f_PF_116 (PW_z hW hB) rfl ?_
  refine V_iadd d_PF_writePage_160 ?_
  refine V_maxi d_PF_writePage_161 mx_PF_201 mxi1 mx0 mxi2 (by decide) (Nat.le_of_ble_eq_true rfl) ?_
  refine VW_put hW (by omega) d_PF_writePage_164 f_PF_165 (fun _ => rfl) (rfl) (rfl) (Nat.le_of_ble_eq_true rfl) (fun _ => pC_i8 _) rfl rfl (fun M1 hW => ?_)
  refine V_aload_n d_PF_writePage_167 rfl (isr_ref _) ?_
  refine V_aload_n d_PF_writePage_168 rfl (isr_ref _) ?_
  refine V_getf d_PF_writePage_169 f_PF_168 (PW_c hW (by omega) (fun _ => rfl)) rfl ?_
  refine V_aload_n d_PF_writePage_172 rfl (isr_ref _) ?_
  refine V_getf d_PF_writePage_173 f_PF_110 (PW_z hW hB) rfl ?_
  refine V_maxi d_PF_writePage_176 mx_PF_201 mxi1 mx0 mxi2 (by decide) (Nat.le_of_ble_eq_true rfl) ?_
  refine VW_put hW (by omega) d_PF_writePage_179 f_PF_168 (fun _ => rfl) (rfl) (rfl) (Nat.le_of_ble_eq_true rfl) (fun _ => pC_i9 _) rfl rfl (fun M1 hW => ?_)
  refine V_aload_n d_PF_writePage_182 rfl (isr_ref _) ?_
  refine V_aload_n d_PF_writePage_183 rfl (isr_ref _) ?_
  refine V_getf d_PF_writePage_184 f_PF_171 (PW_c hW (by omega) (fun _ => rfl)) rfl ?_
  refine V_aload_n d_PF_writePage_187 rfl (isr_ref _) ?_
  refine V_getf d_PF_writePage_188 f_PF_18 (PW_c hW (by omega) (fun _ => rfl)) rfl ?_
  refine V_getfN d_PF_writePage_191 f_PF_207 (PW_c hW (by omega) (fun _ => rfl)) rfl ?_
  refine V_maxi d_PF_writePage_194 mx_PF_201 mxi1 mx0 mxi2 (by decide) (Nat.le_of_ble_eq_true rfl) ?_
  refine VW_put hW (by omega) d_PF_writePage_197 f_PF_171 (fun _ => rfl) (rfl) (rfl) (Nat.le_of_ble_eq_true rfl) (fun _ => pC_i10 _) rfl rfl (fun M1 hW => ?_)
  refine V_iconst (v := 1) d_PF_writePage_200 (by decide) ?_
  exact V_zreturn d_PF_writePage_201 rfl nz1 (hQ _ hW)
set_option maxRecDepth 100000 in
set_option maxHeartbeats 400000 in
theorem wP_102 {l : Launch} {D : va_G} {ac : Nat → ClassId} {adr : Nat → Nat} {s : PS} {Z M : MP} (hW : PW ac adr s Z M) {n0 : Nat} (hn0 : n0 < 2 ^ 31) {u0 : Int32} {k9 n9 : Nat} {Q : Option Value → MP → Prop} (hQ : ∀ M', PW ac adr (wpB s n0 u0) Z M' → Q (some (.int 0)) M') : V l D (tyl ac) t_PF_writePage k9 n9 102 [(0, .ref (adr 0)), (2, .int (nI n0)), (3, .int u0)] [] M Q := by
  obtain ⟨ra, hb⟩ := PW_len hW
  refine V_aload_n d_PF_writePage_102 rfl (isr_ref _) ?_
  refine V_getf d_PF_writePage_103 f_PF_26 (PW_c hW (by omega) (fun _ => rfl)) rfl ?_
  refine V_iload_n d_PF_writePage_106 rfl ?_
  refine V_c0 (As := [.int (nI n0)]) (rest := []) (T := T_Byt) (N := 2) hb rfl d_PF_writePage_107 c_PF_198 ⟨by decide, by decide⟩ rfl rfl (Nat.le_of_ble_eq_true rfl) (Byt_cutToW hW hn0) (fun r M1 hq9 => ?_)
  obtain ⟨rfl, hW⟩ := hq9
  refine V_aload_n d_PF_writePage_110 rfl (isr_ref _) ?_
  refine V_getf d_PF_writePage_111 f_PF_31 (PW_c hW (by omega) (fun _ => rfl)) rfl ?_
  refine V_iload_n d_PF_writePage_114 rfl ?_
  refine VW_putN hW (by omega) d_PF_writePage_115 f_PF_192 (fun _ => rfl) (rfl) (rfl) (Nat.le_of_ble_eq_true rfl) (fun _ => pC_us _) rfl rfl (fun M1 hW => ?_)
  refine V_iconst (v := 0) d_PF_writePage_118 (by decide) ?_
  exact V_zreturn d_PF_writePage_119 rfl nz0 (hQ _ hW)
set_option maxRecDepth 100000 in
set_option maxHeartbeats 400000 in
theorem wP_91 {l : Launch} {D : va_G} {ac : Nat → ClassId} {adr : Nat → Nat} {s : PS} {Z M : MP} {jE : Nat} (hW : PW ac adr s Z M) {b : Nat} {v w h d it ne : Int32} {fo : Option Nat} (hB : Z b = some (.inr (1, bxv v w h d (va_rf fo) it ne))) (hz : isz1 v) (hN0 : 0 < xN s) {nE : Nat} {sE : PS} (hr : pRun Z (s) v w h d fo sE) (hj : (F9 sE).2.1 ≤ jE) (hn : (fadd (xF sE) 140 1).1 ≤ 500000) (hN : xN sE ≤ nE) {n0 : Nat} (hn0 : n0 < 2 ^ 31) {u0 x : Int32} : V l D (tyl ac) t_PF_writePage (bk jE (xF s) (3 * (nE - xN s))) (bs jE (xF s) (23 * (nE - xN s))) 91 [(0, .ref (adr 0)), (1, .ref b), (2, .int (nI n0)), (3, .int u0), (4, .int x)] [] M (wpQ ac adr (9 + 3 * xN s) sE Z x w h d n0 u0) := by
  have hle := pRun_le hN0 hr
  have hle2 := FLe_add (xF sE) 140 1
  refine V_aload_n d_PF_writePage_91 rfl (isr_ref _) ?_
  refine V_getf d_PF_writePage_92 f_PF_18 (PW_c hW (by omega) (fun _ => rfl)) rfl ?_
  refine V_aload_n d_PF_writePage_95 rfl (isr_ref _) ?_
  refine VW_callF (As := [.ref b]) (rest := []) (T' := T_PgW) (Nn := 8) hle.1 hle.2 hN (Nat.le_trans (FLe_9 sE).1 hj) (PW_c (p := 1) hW (by omega) (fun _ => rfl)) rfl d_PF_writePage_96 c_PF_195 ⟨by decide, by decide⟩ rfl rfl (Nat.le_of_ble_eq_true rfl) (PgW_writeBox hW hB hz hN0 hr (Nat.le_refl _) (Nat.le_trans hle2.2 hn) (Nat.le_refl _)) (fun r M1 hq9 => ?_)
  obtain ⟨adr', ha9, rfl, hW⟩ := hq9
  have e0 := ha9 0 (by omega)
  rw [← e0]
  refine V_if_ne 120 d_PF_writePage_99 (by decide) (fun h99 => ?_) (fun h99 => ?_)
  · have hg : sE.1 27 = 0 := Classical.byContradiction (fun z => h99 (if_neg z))
    refine V_lv [0, 1, 4] rfl ?_
    exact wP_120 hW hB ⟨F9_g hg hj, hn⟩ (fun M2 h2 => ⟨adr', ha9, Or.inl ⟨hg, rfl, h2⟩⟩)
  · have hg : ¬ sE.1 27 = 0 := fun z => h99 (by rw [if_pos z]; decide)
    refine V_lv [0, 2, 3] rfl ?_
    exact wP_102 hW hn0 (fun M2 h2 => ⟨adr', ha9, Or.inr ⟨hg, rfl, h2⟩⟩)
theorem wp_st (s : PS) (v : Int32) (c : Nat) (L : List (Int32 × Nat)) : uF s (fwr (xF s) ((v, c) :: L)) = uF (uF s (fadd (xF s) v c)) (fwr (xF (uF s (fadd (xF s) v c))) L) := rfl
theorem pRun_FE {Z : MP} {s : PS} {L : List (Int32 × Nat)} {v w h d : Int32} {fo : Option Nat} {sE : PS} {jE : Nat} (hN0 : 0 < xN s) (hr : pRun Z (uF s (fwr (xF s) L)) v w h d fo sE) (hj : (F9 sE).2.1 ≤ jE) (hn : (fadd (xF sE) 140 1).1 ≤ 500000) : FE (xF s) L jE := by
  have hle := pRun_le (s := uF s (fwr (xF s) L)) hN0 hr
  have hle2 := FLe_add (xF sE) 140 1
  exact ⟨Nat.le_trans hle.1.1 (Nat.le_trans (FLe_9 sE).1 hj), Nat.le_trans hle.1.2 (Nat.le_trans hle2.2 hn)⟩
set_option maxRecDepth 100000 in
set_option maxHeartbeats 400000 in
theorem wP_79 {l : Launch} {D : va_G} {ac : Nat → ClassId} {adr : Nat → Nat} {s : PS} {Z M : MP} {jE : Nat} (hW : PW ac adr s Z M) {b : Nat} {v w h d it ne : Int32} {fo : Option Nat} (hB : Z b = some (.inr (1, bxv v w h d (va_rf fo) it ne))) (hz : isz1 v) (hN0 : 0 < xN s) {nE : Nat} {sE : PS} (hr : pRun Z (uF s (fwr (xF s) [(s.1 7, 4)])) v w h d fo sE) (hj : (F9 sE).2.1 ≤ jE) (hn : (fadd (xF sE) 140 1).1 ≤ 500000) (hN : xN sE ≤ nE) {n0 : Nat} (hn0 : n0 < 2 ^ 31) {u0 x : Int32} : V l D (tyl ac) t_PF_writePage (bk jE (xF s) (3 * (nE - xN s))) (bs jE (xF s) (23 * (nE - xN s))) 79 [(0, .ref (adr 0)), (1, .ref b), (2, .int (nI n0)), (3, .int u0), (4, .int x)] [] M (wpQ ac adr (9 + 3 * xN s) sE Z x w h d n0 u0) := by
  have hE := pRun_FE hN0 hr hj hn
  rw [wp_st] at hr
  refine V_aload_n d_PF_writePage_79 rfl (isr_ref _) ?_
  refine V_getf d_PF_writePage_80 f_PF_26 (PW_c hW (by omega) (fun _ => rfl)) rfl ?_
  refine V_aload_n d_PF_writePage_83 rfl (isr_ref _) ?_
  refine V_getf d_PF_writePage_84 f_PF_32 (PW_c hW (by omega) (fun _ => rfl)) rfl ?_
  refine V_iconst (v := nI 4) d_PF_writePage_87 (by decide) ?_
  refine VW_add (t := t_PF_writePage) hW [] hE (by decide) d_PF_writePage_88 c_PF_158 ⟨by decide, by decide⟩ (Nat.le_of_ble_eq_true rfl) (fun M1 hW => ?_)
  replace hE := FE_t hE
  exact wP_91 (s := uF s (fadd (xF s) (s.1 7) 4)) hW hB hz hN0 hr hj hn hN hn0
set_option maxRecDepth 100000 in
set_option maxHeartbeats 400000 in
theorem wP_57 {l : Launch} {D : va_G} {ac : Nat → ClassId} {adr : Nat → Nat} {Z : MP} {jE : Nat} {b : Nat} {v w h d it ne : Int32} {fo : Option Nat} (hz : isz1 v) {nE : Nat} {sE : PS} (hj : (F9 sE).2.1 ≤ jE) (hn : (fadd (xF sE) 140 1).1 ≤ 500000) (hN : xN sE ≤ nE) {n0 : Nat} (hn0 : n0 < 2 ^ 31) {u0 x : Int32} : ∀ (j : Nat), j ≤ 9 → ∀ {s : PS} {M : MP}, PW ac adr s Z M → Z b = some (.inr (1, bxv v w h d (va_rf fo) it ne)) → 0 < xN s → pRun Z (uF s (fwr (xF s) (zr j ++ [(s.1 7, 4)]))) v w h d fo sE → V l D (tyl ac) t_PF_writePage (bk jE (xF s) (3 * (nE - xN s))) (bs jE (xF s) (23 * (nE - xN s))) 57 [(0, .ref (adr 0)), (1, .ref b), (2, .int (nI n0)), (3, .int u0), (4, .int x), (5, .int (nI (9 - j)))] [] M (wpQ ac adr (9 + 3 * xN s) sE Z x w h d n0 u0) := by
  intro j
  induction j with
  | zero =>
    intro hj9 s M hW hB hN0 hr
    replace hr : pRun Z (uF s (fwr (xF s) [(s.1 7, 4)])) v w h d fo sE := hr
    refine V_iload d_PF_writePage_57 rfl ?_
    refine V_bipush (v := 9) d_PF_writePage_59 (by decide) ?_
    refine V_icmp_ge 79 d_PF_writePage_61 (by decide) (fun h61 => ?_) (fun h61 => ?_)
    · refine V_lv [0, 1, 2, 3, 4] rfl ?_
      exact wP_79 hW hB hz hN0 hr hj hn hN hn0
    · exact absurd (show nI 9 ≤ nI (9 - 0) by decide) h61
  | succ j ih =>
    intro hj9 s M hW hB hN0 hr
    refine V_iload d_PF_writePage_57 rfl ?_
    refine V_bipush (v := 9) d_PF_writePage_59 (by decide) ?_
    refine V_icmp_ge 79 d_PF_writePage_61 (by decide) (fun h61 => ?_) (fun h61 => ?_)
    · exact absurd h61 (nI_ge (a := 9 - (j + 1)) (b := 9) (by omega) (by omega))
    · have hE := pRun_FE hN0 hr hj hn
      rw [zr_s] at hE hr
      replace hr : pRun Z (uF s (fwr (xF s) ((0, 4) :: (zr j ++ [(s.1 7, 4)])))) v w h d fo sE := hr
      replace hE : FE (xF s) ((0, 4) :: (zr j ++ [(s.1 7, 4)])) jE := hE
      rw [wp_st] at hr
      refine V_aload_n d_PF_writePage_64 rfl (isr_ref _) ?_
      refine V_getf d_PF_writePage_65 f_PF_26 (PW_c hW (by omega) (fun _ => rfl)) rfl ?_
      refine V_iconst (v := 0) d_PF_writePage_68 (by decide) ?_
      refine V_iconst (v := nI 4) d_PF_writePage_69 (by decide) ?_
      refine VW_add (t := t_PF_writePage) hW (zr j ++ [(s.1 7, 4)]) hE (by decide) d_PF_writePage_70 c_PF_158 ⟨by decide, by decide⟩ (Nat.le_of_ble_eq_true rfl) (fun M1 hW => ?_)
      replace hE := FE_t hE
      refine V_iinc (v := nI (9 - j)) (lv' := [(5, .int (nI (9 - j))), (0, .ref (adr 0)), (1, .ref b), (2, .int (nI n0)), (3, .int u0), (4, .int x)]) 5 d_PF_writePage_73 rfl (by rw [show (9 - j) = (9 - (j + 1)) + 1 by omega]; exact nI_1 _) (by decide) rfl ?_
      refine V_goto 57 d_PF_writePage_76 (by decide) ?_
      refine V_lv [1, 2, 3, 4, 5, 0] rfl ?_
      exact ih (by omega) (s := uF s (fadd (xF s) 0 4)) hW hB hN0 hr
set_option maxRecDepth 100000 in
set_option maxHeartbeats 400000 in
theorem wP_29 {l : Launch} {D : va_G} {ac : Nat → ClassId} {adr : Nat → Nat} {s : PS} {Z M : MP} {jE : Nat} (hW : PW ac adr s Z M) {b : Nat} {v w h d it ne : Int32} {fo : Option Nat} (hB : Z b = some (.inr (1, bxv v w h d (va_rf fo) it ne))) (hz : isz1 v) (hN0 : 0 < xN s) {nE : Nat} {sE : PS} (hr : pRun Z (uF s (fwr (xF s) (hdL s))) v w h d fo sE) (hj : (F9 sE).2.1 ≤ jE) (hn : (fadd (xF sE) 140 1).1 ≤ 500000) (hN : xN sE ≤ nE) {n0 : Nat} (hn0 : n0 < 2 ^ 31) {u0 x : Int32} : V l D (tyl ac) t_PF_writePage (bk jE (xF s) (3 * (nE - xN s))) (bs jE (xF s) (23 * (nE - xN s))) 29 [(0, .ref (adr 0)), (1, .ref b), (2, .int (nI n0)), (3, .int u0), (4, .int x)] [] M (wpQ ac adr (9 + 3 * xN s) sE Z x w h d n0 u0) := by
  unfold hdL at hr
  have hE := pRun_FE hN0 hr hj hn
  rw [wp_st] at hr
  refine V_aload_n d_PF_writePage_29 rfl (isr_ref _) ?_
  refine V_getf d_PF_writePage_30 f_PF_26 (PW_c hW (by omega) (fun _ => rfl)) rfl ?_
  refine V_sipush (v := 139) d_PF_writePage_33 (by decide) ?_
  refine V_iconst (v := nI 1) d_PF_writePage_36 (by decide) ?_
  refine VW_add (t := t_PF_writePage) hW ((s.1 6 + 1, 4) :: (zr 9 ++ [(s.1 7, 4)])) hE (by decide) d_PF_writePage_37 c_PF_158 ⟨by decide, by decide⟩ (Nat.le_of_ble_eq_true rfl) (fun M1 hW => ?_)
  replace hE := FE_t hE
  rw [wp_st] at hr
  refine V_aload_n d_PF_writePage_40 rfl (isr_ref _) ?_
  refine V_getf d_PF_writePage_41 f_PF_26 (PW_c hW (by omega) (fun _ => rfl)) rfl ?_
  refine V_aload_n d_PF_writePage_44 rfl (isr_ref _) ?_
  refine V_getf d_PF_writePage_45 f_PF_174 (PW_c hW (by omega) (fun _ => rfl)) rfl ?_
  refine V_iconst (v := 1) d_PF_writePage_48 (by decide) ?_
  refine V_iadd d_PF_writePage_49 ?_
  refine V_iconst (v := nI 4) d_PF_writePage_50 (by decide) ?_
  refine VW_add (t := t_PF_writePage) hW (zr 9 ++ [(s.1 7, 4)]) hE (by decide) d_PF_writePage_51 c_PF_158 ⟨by decide, by decide⟩ (Nat.le_of_ble_eq_true rfl) (fun M1 hW => ?_)
  replace hE := FE_t hE
  refine V_iconst (v := nI (9 - 9)) d_PF_writePage_54 (by rfl) ?_
  refine V_istore (lv' := [(5, .int (nI (9 - 9))), (0, .ref (adr 0)), (1, .ref b), (2, .int (nI n0)), (3, .int u0), (4, .int x)]) d_PF_writePage_55 (by decide) rfl ?_
  refine V_lv [1, 2, 3, 4, 5, 0] rfl ?_
  exact wP_57 hz hj hn hN hn0 9 (Nat.le_refl _) (s := uF (uF s (fadd (xF s) 139 1)) (fadd (fadd (xF s) 139 1) (s.1 6 + 1) 4)) hW hB hN0 hr
theorem wp_bg (s : PS) (L : List (Int32 × Nat)) : uF s (fwr (xF s) (bgL (xF s).1 ++ L)) = uF (uF s (fwr (xF s) (bgL (xF s).1))) (fwr (xF (uF s (fwr (xF s) (bgL (xF s).1)))) L) := by rw [fwr_app]
theorem hdL_uF (s : PS) (F : FI) : hdL (uF s F) = hdL s := rfl
set_option maxRecDepth 100000 in
set_option maxHeartbeats 400000 in
theorem PF_writePage {l : Launch} {D : va_G} {ac : Nat → ClassId} {adr : Nat → Nat} {s : PS} {Z M : MP} {jE : Nat} (hW : PW ac adr s Z M) {b : Nat} {v w h d it ne : Int32} {fo : Option Nat} (hB : Z b = some (.inr (1, bxv v w h d (va_rf fo) it ne))) (hz : isz1 v) (hN0 : 0 < xN s) {nE : Nat} {sE : PS} (hr : pRun Z (uF s (fwr (xF s) (bgL (xF s).1 ++ hdL s))) v w h d fo sE) (hj : (F9 sE).2.1 ≤ jE) (hn : (fadd (xF sE) 140 1).1 ≤ 500000) (hN : xN sE ≤ nE) : Ct l D (tyl ac) t_PF_writePage (bk jE (xF s) (3 * (nE - xN s))) (bs jE (xF s) (23 * (nE - xN s))) [.ref (adr 0), .ref b] M (wpQ ac adr (9 + 3 * xN s) sE Z (nI (fwr (xF s) (bgL (xF s).1)).1) w h d (xF s).1 (s.1 30)) := by
  refine Ct_of (by decide) (Nat.le_of_ble_eq_true rfl) ?_
  obtain ⟨ra, hb⟩ := PW_len hW
  have g2 := p2_11 (PW_ok hW).2.2
  have g3 := (PW_ok hW).2.1
  have hE := pRun_FE hN0 hr hj hn
  rw [wp_bg] at hr
  refine V_aload_n d_PF_writePage_0 rfl (isr_ref _) ?_
  refine V_getf d_PF_writePage_1 f_PF_26 (PW_c hW (by omega) (fun _ => rfl)) rfl ?_
  refine V_getfN d_PF_writePage_4 f_PF_136 (hb) rfl ?_
  refine V_istore_n (lv' := [(2, .int (nI (xF s).1)), (0, .ref (adr 0)), (1, .ref b)]) d_PF_writePage_7 (by decide) rfl ?_
  refine V_aload_n d_PF_writePage_8 rfl (isr_ref _) ?_
  refine V_getf d_PF_writePage_9 f_PF_31 (PW_c hW (by omega) (fun _ => rfl)) rfl ?_
  refine V_getfN d_PF_writePage_12 f_PF_192 (PW_c hW (by omega) (fun _ => rfl)) rfl ?_
  refine V_istore_n (lv' := [(3, .int (s.1 30)), (2, .int (nI (xF s).1)), (0, .ref (adr 0)), (1, .ref b)]) d_PF_writePage_15 (by decide) rfl ?_
  refine V_aload_n d_PF_writePage_16 rfl (isr_ref _) ?_
  refine VW_call (F := xF s) (L1 := bgL (xF s).1) (As := []) (rest := []) (T' := T_PF) (Nn := 12) (hdL s) hE (PW_c (p := 0) hW (by omega) (fun _ => rfl)) rfl d_PF_writePage_17 c_PF_155 ⟨by decide, by decide⟩ rfl rfl (Nat.le_of_ble_eq_true rfl) (fun hE => PF_writeBeginning hW hE) (fun r M1 hq9 hE => ?_)
  obtain ⟨rfl, hW⟩ := hq9
  obtain ⟨ra2, hb2⟩ := PW_len hW
  refine V_aload_n d_PF_writePage_20 rfl (isr_ref _) ?_
  refine V_getf d_PF_writePage_21 f_PF_26 (PW_c hW (by omega) (fun _ => rfl)) rfl ?_
  refine V_getfN d_PF_writePage_24 f_PF_136 (hb2) rfl ?_
  refine V_istore (lv' := [(4, .int (nI (fwr (xF s) (bgL (xF s).1)).1)), (3, .int (s.1 30)), (2, .int (nI (xF s).1)), (0, .ref (adr 0)), (1, .ref b)]) d_PF_writePage_27 (by decide) rfl ?_
  refine V_lv [3, 4, 2, 1, 0] rfl ?_
  exact wP_29 (s := uF s (fwr (xF s) (bgL (xF s).1))) hW hB hz hN0 hr hj hn hN (by omega)
