/-! PageWriter.writeBox: the loop -/
def FLe (F F' : FI) : Prop := F.2.1 ≤ F'.2.1 ∧ F.1 ≤ F'.1
theorem FLe_rf (F : FI) : FLe F F := ⟨Nat.le_refl _, Nat.le_refl _⟩
theorem FLe_tr {F G H : FI} (h : FLe F G) (k : FLe G H) : FLe F H := ⟨Nat.le_trans h.1 k.1, Nat.le_trans h.2 k.2⟩
theorem FLe_w (F : FI) (L : List (Int32 × Nat)) : FLe F (fwr F L) := ⟨fwr_j F L, fwr_n F L⟩
theorem FE_le {F G : FI} {L : List (Int32 × Nat)} {jE : Nat} (h : FLe (fwr F L) G) (h1 : G.2.1 ≤ jE) (h2 : G.1 ≤ 500000) : FE F L jE := ⟨Nat.le_trans h.1 h1, Nat.le_trans h.2 h2⟩
def nxS (s : PS) (i : Nat) (nx : Option Nat) : PS := uG s i ((xG s i).1, nx, (xG s i).2.2)
/-- from s, in frame i, the loop comes to sE within n steps -/
def cRun (Z : MP) : Nat → PS → Nat → PS → Prop
  | 0, _, _, _ => False
  | n + 1, s, i, sE => (¬ s.1 27 = 0 ∧ sE = s) ∨ (s.1 27 = 0 ∧ (((xG s i).2.1 = none ∧ ((i = 0 ∧ sE = leS s 0) ∨ ∃ j, i = j + 1 ∧ cRun Z n (leS s i) j sE)) ∨ (∃ (a : Nat) (I : Nat → Int32) (nx : Option Nat) (m : Nat), (xG s i).2.1 = some a ∧ Z a = some (.inr (5, itv I .null (va_rf nx))) ∧ (I 0 = 0 ∨ I 0 = 1 ∨ I 0 = 2) ∧ m < 32 ∧ (¬ I 0 = 1 → I 4 = nI m) ∧ cRun Z n (wi0 (nxS s i nx) i I m) i sE) ∨ (∃ (a : Nat) (I : Nat → Int32) (nx : Option Nat) (q : Nat) (v w h d it ne : Int32) (fo : Option Nat), (xG s i).2.1 = some a ∧ Z a = some (.inr (5, itv I (.ref q) (va_rf nx))) ∧ Z q = some (.inr (1, bxv v w h d (va_rf fo) it ne)) ∧ isz1 v ∧ I 0 = 3 ∧ cRun Z n (wi1 (nxS s i nx) i I v w h d fo) (wi1i (nxS s i nx) i I v h fo) sE)))
theorem wc3_N (s : PS) (I : Nat → Int32) : xN (wc3 s I) = xN s := by unfold wc3; split <;> rfl
theorem wc2_N (s : PS) (I : Nat → Int32) : xN (wc2 s I) = xN s := by
  unfold wc2
  split
  · exact wc3_N s I
  · exact (wc3_N _ I).trans rfl
theorem fnS_N (s : PS) (m : Nat) : xN (fnS s m) = xN s := rfl
theorem wc1_N (s : PS) (I : Nat → Int32) (m : Nat) : xN (wc1 s I m) = xN s := by
  unfold wc1
  split
  · rw [wc2_N, fnS_N]
  · exact wc2_N s I
theorem ruS_N (s : PS) (F I : Nat → Int32) : xN (ruS s F I) = xN s := by unfold ruS; split <;> rfl
theorem wiA_N (s : PS) (i : Nat) (I : Nat → Int32) : xN (wiA s i I) = xN s := rfl
theorem uI_N (s : PS) (k : Nat) (v : Int32) : xN (uI s k v) = xN s := rfl
theorem nxS_N (s : PS) (i : Nat) (nx : Option Nat) : xN (nxS s i nx) = xN s := rfl
theorem nxS_F (s : PS) (i : Nat) (nx : Option Nat) : xF (nxS s i nx) = xF s := rfl
theorem leS_N (s : PS) (i : Nat) : xN (leS s i) = xN s := rfl
theorem leS_F (s : PS) (i : Nat) : xF (leS s i) = fwr (xF s) [(142, 1)] := rfl
theorem wi0_N (s : PS) (i : Nat) (I : Nat → Int32) (m : Nat) : xN (wi0 s i I m) = xN s := by
  unfold wi0
  split
  · rw [uI_N]
  · split
    · rw [wiA_N]
    · split
      · rw [ruS_N, wiB_N]
      · rw [wc1_N, wiB_N]
theorem wi1_N {s : PS} {i : Nat} (I : Nat → Int32) (v w h d : Int32) (fo : Option Nat) (hi : i < xN s) : xN s ≤ xN (wi1 s i I v w h d fo) ∧ wi1i s i I v h fo < xN (wi1 s i I v w h d fo) := by
  unfold wi1 wi1i
  split
  · rw [uI_N]; exact ⟨Nat.le_refl _, hi⟩
  · split
    · rw [wiA_N]; exact ⟨Nat.le_refl _, hi⟩
    · have h1 := inS_N (s := wiB s i I) (i := i) (by rw [wiB_N]; exact hi)
      rw [wiB_N] at h1
      rw [enS_N]
      exact h1
theorem cRun_le {Z : MP} : ∀ (n : Nat) {s : PS} {i : Nat} {sE : PS}, i < xN s → cRun Z n s i sE → FLe (xF s) (xF sE) ∧ xN s ≤ xN sE := by
  intro n
  induction n with
  | zero => intro s i sE _ h; exact h.elim
  | succ n ih =>
    intro s i sE hi h
    rcases h with ⟨_, rfl⟩ | ⟨_, h⟩
    · exact ⟨FLe_rf _, Nat.le_refl _⟩
    rcases h with ⟨_, h⟩ | ⟨a, I, nx, m, _, _, _, _, _, h⟩ | ⟨a, I, nx, q, v, w, h9, d, it, ne, fo, _, _, _, _, _, h⟩
    · rcases h with ⟨_, rfl⟩ | ⟨j, rfl, h⟩
      · rw [leS_F, leS_N]; exact ⟨FLe_w _ _, Nat.le_refl _⟩
      · have h1 := ih (by rw [leS_N]; omega) h
        rw [leS_F, leS_N] at h1
        exact ⟨FLe_tr (FLe_w _ _) h1.1, h1.2⟩
    · have h1 := ih (by rw [wi0_N, nxS_N]; exact hi) h
      rw [wi0_F, nxS_F, wi0_N, nxS_N] at h1
      exact ⟨FLe_tr (FLe_w _ _) h1.1, h1.2⟩
    · have h0 := wi1_N (s := nxS s i nx) (i := i) I v w h9 d fo (by rw [nxS_N]; exact hi)
      have h1 := ih h0.2 h
      rw [nxS_N] at h0
      rw [wi1_F, nxS_F] at h1
      exact ⟨FLe_tr (FLe_w _ _) h1.1, Nat.le_trans h0.1 h1.2⟩
theorem VW_callN {l : Launch} {D : va_G} {ac : Nat → ClassId} {t t' : MT} {pc i : Nat} {lv : List (Nat × Value)} {rest : List Value} {M : MP} {Q : Option Value → MP → Prop} {na b : Nat} {As st : List Value} {ci Nn : Nat} {T' : u_T} {fs : List Value} {L1 : List (Int32 × Nat)} (L2 : List (Int32 × Nat)) {jE n0 n1 nE : Nat} {F : FI} {Q' : Option Value → MP → Prop} (h01 : n0 ≤ n1) (h1E : n1 ≤ nE) (hE : FE F (L1 ++ L2) jE) (ha : M b = some (.inr (ci, fs))) (hcl : cls[ci]? = some (t'.1.cls, T', Nn)) (hd : decode t.2.1 pc = .ok (.invokevirtual i, 3)) (ok : OKV t.1.cls i t' na) (hR : rmf t t') (hna : As.length = na) (hst : st = As.reverse ++ .ref b :: rest) (hW9 : (rest.map fun v => v.category).sum ≤ 8) (ct : FE F L1 (fwr F L1).2.1 → Ct l D (tyl ac) t' (bk (fwr F L1).2.1 F (3 * (n1 - n0))) (bs (fwr F L1).2.1 F (23 * (n1 - n0))) (.ref b :: As) M Q') (h : ∀ r M', Q' r M' → FE (fwr F L1) L2 jE → V l D (tyl ac) t (bk jE (fwr F L1) (3 * (nE - n1))) (bs jE (fwr F L1) (23 * (nE - n1))) (pc + 3) lv (r.toList ++ rest) M' Q) : V l D (tyl ac) t (bk jE F (3 * (nE - n0))) (bs jE F (23 * (nE - n0))) pc lv st M Q := by
  have e0 : FE (fwr F L1) L2 jE := by unfold FE at hE ⊢; rw [fwr_app] at hE; exact hE
  have e1 := fwr_j F L1
  have e2 := Nat.le_trans (fwr_j (fwr F L1) L2) e0.1
  have e3 := fw_mono e1
  have e4 := fw_mono e2
  exact V_callV (As := As) (rest := rest) (k' := bk jE (fwr F L1) (3 * (nE - n1))) (n' := bs jE (fwr F L1) (23 * (nE - n1))) ha hcl hd ok hR hna hst hW9 (by unfold bk; omega) (by unfold bs; omega) (ct ⟨Nat.le_refl _, Nat.le_trans (fwr_n _ L2) e0.2⟩) (fun r M' hq => h r M' hq e0)
def wbQ (ac : Nat → ClassId) (adr0 : Nat → Nat) (K0 : Nat) (sE : PS) (Z : MP) : Option Value → MP → Prop := fun r M' => ∃ adr' : Nat → Nat, (∀ p, p < K0 → adr' p = adr0 p) ∧ r = some (.int (if sE.1 27 = 0 then 1 else 0)) ∧ PW ac adr' sE Z M'
set_option maxRecDepth 100000 in
set_option maxHeartbeats 4000000 in
theorem wB_120 {l : Launch} {D : va_G} {ac : Nat → ClassId} {adr0 : Nat → Nat} {K0 : Nat} {sE : PS} {Z : MP} {adr : Nat → Nat} {M : MP} {k n b : Nat} {u : Value} {x : Int32} (hW : PW ac adr sE Z M) (hag : ∀ p, p < K0 → adr p = adr0 p) : V l D (tyl ac) t_PgW_writeBox k n 120 [(0, .ref (adr 1)), (1, .ref b), (2, u), (3, .int x)] [] M (wbQ ac adr0 K0 sE Z) := by
  refine V_aload_n d_PgW_writeBox_120 rfl (isr_ref _) ?_
  refine V_getf d_PgW_writeBox_121 f_PgW_56 (PW_c hW (by omega) (fun _ => rfl)) rfl ?_
  refine V_if_ne 131 d_PgW_writeBox_124 (by decide) (fun h124 => ?_) (fun h124 => ?_)
  · refine V_iconst (v := 0) d_PgW_writeBox_131 (by decide) ?_
    exact V_zreturn d_PgW_writeBox_132 rfl nz0 ⟨adr, hag, by rw [if_neg h124], hW⟩
  · refine V_iconst (v := 1) d_PgW_writeBox_127 (by decide) ?_
    refine V_goto 132 d_PgW_writeBox_128 (by decide) ?_
    exact V_zreturn d_PgW_writeBox_132 rfl nz1 ⟨adr, hag, by rw [if_pos (Classical.not_not.mp h124)], hW⟩
set_option maxRecDepth 100000 in
set_option maxHeartbeats 4000000 in
theorem wB_59n {l : Launch} {D : va_G} {ac : Nat → ClassId} {adr0 : Nat → Nat} {K0 : Nat} {sE : PS} {Z : MP} {adr : Nat → Nat} {M : MP} {k n b : Nat} {x : Int32} (hW : PW ac adr sE Z M) (hag : ∀ p, p < K0 → adr p = adr0 p) : V l D (tyl ac) t_PgW_writeBox k n 59 [(0, .ref (adr 1)), (1, .ref b), (2, .null), (3, .int x)] [] M (wbQ ac adr0 K0 sE Z) := by
  refine V_iload_n d_PgW_writeBox_59 rfl ?_
  refine V_sipush (v := 12000) d_PgW_writeBox_60 (by decide) ?_
  refine V_icmp_ge 120 d_PgW_writeBox_63 (by decide) (fun h63 => ?_) (fun h63 => ?_)
  · exact wB_120 hW hag
  · refine V_aload_n d_PgW_writeBox_66 rfl (isr_null) ?_
    refine V_ifnull 120 (isr_null) d_PgW_writeBox_67 (by decide) (fun h67 => ?_) (fun a67 h67 => ?_)
    · exact wB_120 hW hag
    · cases h67
set_option maxRecDepth 100000 in
set_option maxHeartbeats 400000 in
theorem wB_59 {l : Launch} {D : va_G} {ac : Nat → ClassId} {adr0 : Nat → Nat} {K0 : Nat} {sE : PS} {Z : MP} {jE nE b : Nat} (hj9 : (xF sE).2.1 ≤ jE) (hn9 : (xF sE).1 ≤ 500000) (hN9 : xN sE ≤ nE) : ∀ (n : Nat) (s : PS) (i st : Nat) (M : MP) (adr : Nat → Nat), PW ac adr s Z M → cRun Z n s i sE → st + n ≤ 12000 → i < xN s → K0 ≤ 9 + 3 * xN s → (∀ p, p < K0 → adr p = adr0 p) → V l D (tyl ac) t_PgW_writeBox (bk jE (xF s) (3 * (nE - xN s))) (bs jE (xF s) (23 * (nE - xN s))) 59 [(0, .ref (adr 1)), (1, .ref b), (2, .ref (adr (9 + 3 * i))), (3, .int (nI st))] [] M (wbQ ac adr0 K0 sE Z) := by
  intro n
  induction n with
  | zero => intro s i st M adr _ hr; exact hr.elim
  | succ n ih =>
    intro s i st M adr hW hr hst hi hK hag
    refine V_iload_n d_PgW_writeBox_59 rfl ?_
    refine V_sipush (v := 12000) d_PgW_writeBox_60 (by decide) ?_
    refine V_icmp_ge 120 d_PgW_writeBox_63 (by decide) (fun h63 => ?_) (fun h63 => ?_)
    · exact absurd (show nI 12000 ≤ nI st from h63) (nI_ge (by omega) (by omega))
    · refine V_aload_n d_PgW_writeBox_66 rfl (isr_ref _) ?_
      refine V_ifnull 120 (isr_ref _) d_PgW_writeBox_67 (by decide) (fun h67 => ?_) (fun a67 h67 => ?_)
      · cases h67
      · refine V_aload_n d_PgW_writeBox_70 rfl (isr_ref _) ?_
        refine V_getf d_PgW_writeBox_71 f_PgW_56 (PW_c hW (by omega) (fun _ => rfl)) rfl ?_
        refine V_if_ne 120 d_PgW_writeBox_74 (by decide) (fun h74 => ?_) (fun h74 => ?_)
        · rcases hr with ⟨_, rfl⟩ | ⟨hz, _⟩
          · exact wB_120 hW hag
          · exact absurd hz h74
        · have hfg := PW_fr hW hi
          rcases hr with ⟨hz, _⟩ | ⟨hz, hr⟩
          · exact absurd hz h74
          rcases hr with ⟨hnx, hr⟩ | ⟨a, I, nx, m, hnx, hI, hk, hm, hf, hr⟩ | ⟨a, I, nx, q, v, w9, h9, d9, it, ne, fo, hnx, hI, hB, hzv, hk, hr⟩
          · rw [hnx] at hfg
            refine V_aload_n d_PgW_writeBox_77 rfl (isr_ref _) ?_
            refine V_getfN d_PgW_writeBox_78 f_PgW_77 (hfg) rfl ?_
            refine V_astore (lv' := [(4, .null), (0, .ref (adr 1)), (1, .ref b), (2, .ref (adr (9 + 3 * i))), (3, .int (nI st))]) d_PgW_writeBox_81 (isr_null) (by decide) rfl ?_
            refine V_aload d_PgW_writeBox_83 rfl (isr_null) ?_
            refine V_ifnonnull 97 (isr_null) d_PgW_writeBox_85 (by decide) (fun a85 h85 => ?_) (fun h85 => ?_)
            · cases h85
            · have hfl : FLe (fwr (xF s) [(142, 1)]) (xF sE) := by
                rcases hr with ⟨rfl, rfl⟩ | ⟨j, rfl, hr⟩
                · exact FLe_rf _
                · exact (cRun_le n (by rw [leS_N]; omega) hr).1
              refine V_aload_n d_PgW_writeBox_88 rfl (isr_ref _) ?_
              refine V_aload_n d_PgW_writeBox_89 rfl (isr_ref _) ?_
              refine VW_call (L1 := [(142, 1)]) (As := [.ref (adr (9 + 3 * i))]) (rest := []) (T' := T_PgW) (Nn := 8) [] (FE_0 (FE_le hfl hj9 hn9)) (PW_c (p := 1) hW (by omega) (fun _ => rfl)) rfl d_PgW_writeBox_90 c_PgW_80 ⟨by decide, by decide⟩ rfl rfl (Nat.le_of_ble_eq_true rfl) (fun hE => PgW_leave hW hi hE) (fun r M1 hq9 hE => ?_)
              obtain ⟨rfl, hW⟩ := hq9
              rcases hr with ⟨rfl, rfl⟩ | ⟨j, rfl, hr⟩
              · refine V_astore_n (lv' := [(2, .null), (4, .null), (0, .ref (adr 1)), (1, .ref b), (3, .int (nI st))]) d_PgW_writeBox_93 (isr_null) (by decide) rfl ?_
                refine V_goto 114 d_PgW_writeBox_94 (by decide) ?_
                refine V_iinc (v := nI (st + 1)) (lv' := [(3, .int (nI (st + 1))), (2, .null), (4, .null), (0, .ref (adr 1)), (1, .ref b)]) 4 d_PgW_writeBox_114 rfl (nI_1 st) (by decide) rfl ?_
                refine V_goto 59 d_PgW_writeBox_117 (by decide) ?_
                refine V_lv [3, 4, 1, 0] rfl ?_
                exact wB_59n hW hag
              · refine V_astore_n (lv' := [(2, .ref (adr (9 + 3 * j))), (4, .null), (0, .ref (adr 1)), (1, .ref b), (3, .int (nI st))]) d_PgW_writeBox_93 (isr_ref _) (by decide) rfl ?_
                refine V_goto 114 d_PgW_writeBox_94 (by decide) ?_
                refine V_iinc (v := nI (st + 1)) (lv' := [(3, .int (nI (st + 1))), (2, .ref (adr (9 + 3 * j))), (4, .null), (0, .ref (adr 1)), (1, .ref b)]) 4 d_PgW_writeBox_114 rfl (nI_1 st) (by decide) rfl ?_
                refine V_goto 59 d_PgW_writeBox_117 (by decide) ?_
                refine V_lv [3, 4, 1, 0] rfl ?_
                exact ih (leS s (j + 1)) j (st + 1) M1 adr hW hr (by omega) (by rw [leS_N]; omega) (by rw [leS_N]; exact hK) hag
          · rw [hnx] at hfg
            refine V_aload_n d_PgW_writeBox_77 rfl (isr_ref _) ?_
            refine V_getfN d_PgW_writeBox_78 f_PgW_77 (hfg) rfl ?_
            refine V_astore (lv' := [(4, .ref a), (0, .ref (adr 1)), (1, .ref b), (2, .ref (adr (9 + 3 * i))), (3, .int (nI st))]) d_PgW_writeBox_81 (isr_ref _) (by decide) rfl ?_
            refine V_aload d_PgW_writeBox_83 rfl (isr_ref _) ?_
            refine V_ifnonnull 97 (isr_ref _) d_PgW_writeBox_85 (by decide) (fun a85 h85 => ?_) (fun h85 => ?_)
            · refine V_aload_n d_PgW_writeBox_97 rfl (isr_ref _) ?_
              refine V_aload d_PgW_writeBox_98 rfl (isr_ref _) ?_
              refine V_getf d_PgW_writeBox_100 f_PgW_84 (PW_z hW hI) rfl ?_
              refine VW_putN (s' := nxS s i nx) hW (show 9 + 3 * i < 9 + 3 * xN s by omega) d_PgW_writeBox_103 f_PgW_77 (fun _ => pC_g i) (isr_nar (isr_rf _)) (isr_fit (isr_rf _)) (Nat.le_of_ble_eq_true rfl) (fun _ => pC_ug i (xG s i).1 nx) rfl rfl (fun M1 hW => ?_)
              have hW : PW ac adr (nxS s i nx) Z M1 := hW
              have hcl := cRun_le n (by rw [wi0_N, nxS_N]; exact hi) hr
              rw [wi0_F] at hcl
              refine V_aload_n d_PgW_writeBox_106 rfl (isr_ref _) ?_
              refine V_aload_n d_PgW_writeBox_107 rfl (isr_ref _) ?_
              refine V_aload d_PgW_writeBox_108 rfl (isr_ref _) ?_
              refine VW_call (F := xF (nxS s i nx)) (L1 := wl0 (nxS s i nx) i I m) (As := [.ref (adr (9 + 3 * i)), .ref a]) (rest := []) (T' := T_PgW) (Nn := 8) [] (FE_0 (FE_le hcl.1 hj9 hn9)) (PW_c (p := 1) hW (by omega) (fun _ => rfl)) rfl d_PgW_writeBox_110 c_PgW_87 ⟨by decide, by decide⟩ rfl rfl (Nat.le_of_ble_eq_true rfl) (fun hE => PgW_writeItem0 hW (by rw [nxS_N]; exact hi) hI hk hm hf hE) (fun r M1 hq9 hE => ?_)
              obtain ⟨rfl, hW⟩ := hq9
              rw [← wi0_F]
              refine V_astore_n (lv' := [(2, .ref (adr (9 + 3 * i))), (4, .ref a), (0, .ref (adr 1)), (1, .ref b), (3, .int (nI st))]) d_PgW_writeBox_113 (isr_ref _) (by decide) rfl ?_
              refine V_iinc (v := nI (st + 1)) (lv' := [(3, .int (nI (st + 1))), (2, .ref (adr (9 + 3 * i))), (4, .ref a), (0, .ref (adr 1)), (1, .ref b)]) 4 d_PgW_writeBox_114 rfl (nI_1 st) (by decide) rfl ?_
              refine V_goto 59 d_PgW_writeBox_117 (by decide) ?_
              refine V_lv [3, 4, 1, 0] rfl ?_
              rw [show xN s = xN (wi0 (nxS s i nx) i I m) by rw [wi0_N, nxS_N]]
              exact ih _ i (st + 1) M1 adr hW hr (by omega) (by rw [wi0_N, nxS_N]; exact hi) (by rw [wi0_N, nxS_N]; exact hK) hag
            · cases h85
          · rw [hnx] at hfg
            refine V_aload_n d_PgW_writeBox_77 rfl (isr_ref _) ?_
            refine V_getfN d_PgW_writeBox_78 f_PgW_77 (hfg) rfl ?_
            refine V_astore (lv' := [(4, .ref a), (0, .ref (adr 1)), (1, .ref b), (2, .ref (adr (9 + 3 * i))), (3, .int (nI st))]) d_PgW_writeBox_81 (isr_ref _) (by decide) rfl ?_
            refine V_aload d_PgW_writeBox_83 rfl (isr_ref _) ?_
            refine V_ifnonnull 97 (isr_ref _) d_PgW_writeBox_85 (by decide) (fun a85 h85 => ?_) (fun h85 => ?_)
            · refine V_aload_n d_PgW_writeBox_97 rfl (isr_ref _) ?_
              refine V_aload d_PgW_writeBox_98 rfl (isr_ref _) ?_
              refine V_getf d_PgW_writeBox_100 f_PgW_84 (PW_z hW hI) rfl ?_
              refine VW_putN (s' := nxS s i nx) hW (show 9 + 3 * i < 9 + 3 * xN s by omega) d_PgW_writeBox_103 f_PgW_77 (fun _ => pC_g i) (isr_nar (isr_rf _)) (isr_fit (isr_rf _)) (Nat.le_of_ble_eq_true rfl) (fun _ => pC_ug i (xG s i).1 nx) rfl rfl (fun M1 hW => ?_)
              have hW : PW ac adr (nxS s i nx) Z M1 := hW
              have hwn := wi1_N (s := nxS s i nx) (i := i) I v w9 h9 d9 fo (by rw [nxS_N]; exact hi)
              have hcl := cRun_le n hwn.2 hr
              rw [wi1_F] at hcl
              rw [show xN s = xN (nxS s i nx) from rfl]
              refine V_aload_n d_PgW_writeBox_106 rfl (isr_ref _) ?_
              refine V_aload_n d_PgW_writeBox_107 rfl (isr_ref _) ?_
              refine V_aload d_PgW_writeBox_108 rfl (isr_ref _) ?_
              refine VW_callN (F := xF (nxS s i nx)) (L1 := wl1b (nxS s i nx) i I v h9 fo) (n0 := xN (nxS s i nx)) (n1 := xN (wi1 (nxS s i nx) i I v w9 h9 d9 fo)) (As := [.ref (adr (9 + 3 * i)), .ref a]) (rest := []) (T' := T_PgW) (Nn := 8) [] hwn.1 (Nat.le_trans hcl.2 hN9) (FE_0 (FE_le hcl.1 hj9 hn9)) (PW_c (p := 1) hW (by omega) (fun _ => rfl)) rfl d_PgW_writeBox_110 c_PgW_87 ⟨by decide, by decide⟩ rfl rfl (Nat.le_of_ble_eq_true rfl) (fun hE => PgW_writeItem1 hW (by rw [nxS_N]; exact hi) hI hB hzv hk (Nat.le_refl _) hE) (fun r M1 hq9 hE => ?_)
              obtain ⟨adr2, g1, rfl, hW⟩ := hq9
              rw [← wi1_F]
              rw [nxS_N] at g1
              rw [show adr 1 = adr2 1 from (g1 1 (by omega)).symm]
              refine V_astore_n (lv' := [(2, .ref (adr2 (9 + 3 * wi1i (nxS s i nx) i I v h9 fo))), (4, .ref a), (0, .ref (adr2 1)), (1, .ref b), (3, .int (nI st))]) d_PgW_writeBox_113 (isr_ref _) (by decide) rfl ?_
              refine V_iinc (v := nI (st + 1)) (lv' := [(3, .int (nI (st + 1))), (2, .ref (adr2 (9 + 3 * wi1i (nxS s i nx) i I v h9 fo))), (4, .ref a), (0, .ref (adr2 1)), (1, .ref b)]) 4 d_PgW_writeBox_114 rfl (nI_1 st) (by decide) rfl ?_
              refine V_goto 59 d_PgW_writeBox_117 (by decide) ?_
              refine V_lv [3, 4, 1, 0] rfl ?_
              rw [nxS_N] at hwn
              exact ih _ _ (st + 1) M1 adr2 hW hr (by omega) hwn.2 (Nat.le_trans hK (by omega)) (fun p hp => (g1 p (Nat.lt_of_lt_of_le hp hK)).trans (hag p hp))
            · cases h85
