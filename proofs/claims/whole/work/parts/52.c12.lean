/-! PageWriter.writeItem -/
def wiA (s : PS) (i : Nat) (I : Nat → Int32) : PS := uG s i (va_up (xG s i).1 11 (beO (xG s i).1 I).toInt32, (xG s i).2.1, (xG s i).2.2)
def wiB (s : PS) (i : Nat) (I : Nat → Int32) : PS := mvS (wiA s i I) (rgO (xG s i).1 I).toInt32 (dnO (xG s i).1 I).toInt32
def wiLB (s : PS) (i : Nat) (I : Nat → Int32) : List (Int32 × Nat) := mvL (wiA s i I) (rgO (xG s i).1 I).toInt32 (dnO (xG s i).1 I).toInt32
abbrev wiZ (F I : Nat → Int32) : Prop := asz (rgO F I) (dnO F I) (beO F I) = 0
def wi0 (s : PS) (i : Nat) (I : Nat → Int32) (m : Nat) : PS := if wiZ (xG s i).1 I ∨ csn (xG s i).1 I = 0 then uI s 27 1 else if iwn (xG (wiA s i I) i).1 I = 0 then wiA s i I else if I 0 = 1 then ruS (wiB s i I) (xG (wiB s i I) i).1 I else wc1 (wiB s i I) I m
def wl0 (s : PS) (i : Nat) (I : Nat → Int32) (m : Nat) : List (Int32 × Nat) := if wiZ (xG s i).1 I ∨ csn (xG s i).1 I = 0 then [] else if iwn (xG (wiA s i I) i).1 I = 0 then [] else wiLB s i I ++ (if I 0 = 1 then ruL (xG (wiB s i I) i).1 I else wl1 (wiB s i I) I m)
theorem wi0_F (s : PS) (i : Nat) (I : Nat → Int32) (m : Nat) : xF (wi0 s i I m) = fwr (xF s) (wl0 s i I m) := by
  unfold wi0 wl0
  split
  · rfl
  · split
    · rfl
    · rw [fwr_app, wiLB, show xF s = xF (wiA s i I) from rfl, ← mvS_F]
      split
      · exact ruS_F _ _ _
      · exact wc1_F _ _ _
def wi1 (s : PS) (i : Nat) (I : Nat → Int32) (v w h d : Int32) (fo : Option Nat) : PS := if wiZ (xG s i).1 I ∨ csb (xG s i).1 I v h (dnO (xG s i).1 I) = 0 then uI s 27 1 else if iwb fo = 0 then wiA s i I else enS (inS (wiB s i I) i) (i + 1) v w h d fo
def wi1i (s : PS) (i : Nat) (I : Nat → Int32) (v h : Int32) (fo : Option Nat) : Nat := if wiZ (xG s i).1 I ∨ csb (xG s i).1 I v h (dnO (xG s i).1 I) = 0 then i else if iwb fo = 0 then i else i + 1
def wl1b (s : PS) (i : Nat) (I : Nat → Int32) (v h : Int32) (fo : Option Nat) : List (Int32 × Nat) := if wiZ (xG s i).1 I ∨ csb (xG s i).1 I v h (dnO (xG s i).1 I) = 0 then [] else if iwb fo = 0 then [] else wiLB s i I ++ [(141, 1)]
theorem wi1_F (s : PS) (i : Nat) (I : Nat → Int32) (v w h d : Int32) (fo : Option Nat) : xF (wi1 s i I v w h d fo) = fwr (xF s) (wl1b s i I v h fo) := by
  unfold wi1 wl1b
  split
  · rfl
  · split
    · rfl
    · rw [fwr_app, wiLB, show xF s = xF (wiA s i I) from rfl, ← mvS_F]
      show fadd (xF (inS (wiB s i I) i)) 141 1 = fadd (xF (wiB s i I)) 141 1
      rw [inS_F]
theorem goS_N (s : PS) (k : Nat) (cmd x : Int32) : xN (goS s k cmd x) = xN s := rfl
theorem mvS_N (s : PS) (x y : Int32) : xN (mvS s x y) = xN s := by
  unfold mvS
  split
  · rfl
  · split <;> rfl
theorem enS_N (s : PS) (i : Nat) (v w h d : Int32) (fo : Option Nat) : xN (enS s i v w h d fo) = xN s := rfl
theorem wiB_F (s : PS) (i : Nat) (I : Nat → Int32) : fwr (xF s) (wiLB s i I) = xF (wiB s i I) := by
  unfold wiLB wiB
  exact (mvS_F (wiA s i I) (rgO (xG s i).1 I).toInt32 (dnO (xG s i).1 I).toInt32).symm
theorem wiB_N (s : PS) (i : Nat) (I : Nat → Int32) : xN (wiB s i I) = xN s := mvS_N _ _ _
set_option maxRecDepth 100000 in
set_option maxHeartbeats 400000 in
theorem PgW_writeItem0 {l : Launch} {D : va_G} {ac : Nat → ClassId} {adr : Nat → Nat} {s : PS} {Z M : MP} {jE : Nat} (hW : PW ac adr s Z M) {i a : Nat} (hi : i < xN s) {I : Nat → Int32} {nx : Value} (hI : Z a = some (.inr (5, itv I .null nx))) (hk : I 0 = 0 ∨ I 0 = 1 ∨ I 0 = 2) {m : Nat} (hm : m < 32) (hf : ¬ I 0 = 1 → I 4 = nI m) (hE : FE (xF s) (wl0 s i I m) jE) : Ct l D (tyl ac) t_PgW_writeItem (bk jE (xF s) 0) (bs jE (xF s) 0) [.ref (adr 1), .ref (adr (9 + 3 * i)), .ref a] M (fun r M' => r = some (.ref (adr (9 + 3 * i))) ∧ PW ac adr (wi0 s i I m) Z M') := by
  have hwN := wiB_N s i I
  have hi2 : i < xN (wiB s i I) := by rw [hwN]; exact hi
  refine Ct_of (by decide) (Nat.le_of_ble_eq_true rfl) ?_
  unfold wl0 at hE
  refine V_aload_n d_PgW_writeItem_0 rfl (isr_ref _) ?_
  refine V_aload_n d_PgW_writeItem_1 rfl (isr_ref _) ?_
  refine V_rd (As := [.ref a]) (rest := []) (T := T_Fra) (N := 13) (PW_fr hW hi) rfl d_PgW_writeItem_2 c_PgW_91 ⟨by decide, by decide⟩ rfl rfl (Nat.le_of_ble_eq_true rfl) (Fra_rightOfW hW hi hI) ?_
  refine V_lstore_n (lv' := [(3, .long (rgO (xG s i).1 I)), (0, .ref (adr 1)), (1, .ref (adr (9 + 3 * i))), (2, .ref a)]) d_PgW_writeItem_5 (by decide) rfl ?_
  refine V_aload_n d_PgW_writeItem_6 rfl (isr_ref _) ?_
  refine V_aload_n d_PgW_writeItem_7 rfl (isr_ref _) ?_
  refine V_rd (As := [.ref a]) (rest := []) (T := T_Fra) (N := 13) (PW_fr hW hi) rfl d_PgW_writeItem_8 c_PgW_95 ⟨by decide, by decide⟩ rfl rfl (Nat.le_of_ble_eq_true rfl) (Fra_downOfW hW hi hI) ?_
  refine V_lstore (lv' := [(5, .long (dnO (xG s i).1 I)), (3, .long (rgO (xG s i).1 I)), (0, .ref (adr 1)), (1, .ref (adr (9 + 3 * i))), (2, .ref a)]) d_PgW_writeItem_11 (by decide) rfl ?_
  refine V_aload_n d_PgW_writeItem_13 rfl (isr_ref _) ?_
  refine V_aload_n d_PgW_writeItem_14 rfl (isr_ref _) ?_
  refine V_rd (As := [.ref a]) (rest := []) (T := T_Fra) (N := 13) (PW_fr hW hi) rfl d_PgW_writeItem_15 c_PgW_98 ⟨by decide, by decide⟩ rfl rfl (Nat.le_of_ble_eq_true rfl) (Fra_behindW hW hi hI) ?_
  refine V_lstore (lv' := [(7, .long (beO (xG s i).1 I)), (5, .long (dnO (xG s i).1 I)), (3, .long (rgO (xG s i).1 I)), (0, .ref (adr 1)), (1, .ref (adr (9 + 3 * i))), (2, .ref a)]) d_PgW_writeItem_18 (by decide) rfl ?_
  refine V_lload_n d_PgW_writeItem_20 rfl ?_
  refine V_lload d_PgW_writeItem_21 rfl ?_
  refine V_lload d_PgW_writeItem_23 rfl ?_
  refine VS_ci3N d_PgW_writeItem_25 c_PgW_101 (PF_areSizes _ _ _) ⟨by decide, by decide⟩ (Nat.le_of_ble_eq_true rfl) ?_
  refine V_if_eq 41 d_PgW_writeItem_28 (by decide) (fun h28 => ?_) (fun h28 => ?_)
  · refine V_aload_n d_PgW_writeItem_41 rfl (isr_ref _) ?_
    refine V_iconst (v := 1) d_PgW_writeItem_42 (by decide) ?_
    refine VW_put hW (by omega) d_PgW_writeItem_43 f_PgW_56 (fun _ => rfl) (by decide) (by decide) (Nat.le_of_ble_eq_true rfl) (fun _ => pC_w27 _) rfl rfl (fun M1 hW => ?_)
    refine V_aload_n d_PgW_writeItem_46 rfl (isr_ref _) ?_
    exact V_areturn d_PgW_writeItem_47 rfl (Or.inl ⟨_, rfl⟩) (isr_ref _) ⟨rfl, by rw [wi0, if_pos (Or.inl h28)]; exact hW⟩
  · refine V_aload_n d_PgW_writeItem_31 rfl (isr_ref _) ?_
    refine V_aload_n d_PgW_writeItem_32 rfl (isr_ref _) ?_
    refine V_lload d_PgW_writeItem_33 rfl ?_
    refine V_rdS (As := [.ref (adr (9 + 3 * i)), .ref a, .long (dnO (xG s i).1 I)]) (rest := []) d_PgW_writeItem_35 c_PgW_105 ⟨by decide, by decide⟩ rfl rfl (Nat.le_of_ble_eq_true rfl) (PgW_canStand0 hW hi hI _) ?_
    refine V_if_ne 48 d_PgW_writeItem_38 (by decide) (fun h38 => ?_) (fun h38 => ?_)
    · have hno : ¬ (wiZ (xG s i).1 I ∨ csn (xG s i).1 I = 0) := fun z => z.elim h28 h38
      rw [if_neg hno] at hE
      refine V_aload_n d_PgW_writeItem_48 rfl (isr_ref _) ?_
      refine V_lload d_PgW_writeItem_49 rfl ?_
      refine V_l2i d_PgW_writeItem_51 ?_
      refine VW_putN hW (by omega) d_PgW_writeItem_52 f_PgW_109 (fun _ => pC_g i) (rfl) (rfl) (Nat.le_of_ble_eq_true rfl) (fun _ => pC_ug i (va_up (xG s i).1 11 (beO (xG s i).1 I).toInt32) _) rfl rfl (fun M1 hW => ?_)
      have hW : PW ac adr (wiA s i I) Z M1 := hW
      refine V_aload_n d_PgW_writeItem_55 rfl (isr_ref _) ?_
      refine V_aload_n d_PgW_writeItem_56 rfl (isr_ref _) ?_
      refine V_rdS (As := [.ref (adr (9 + 3 * i)), .ref a]) (rest := []) d_PgW_writeItem_57 c_PgW_112 ⟨by decide, by decide⟩ rfl rfl (Nat.le_of_ble_eq_true rfl) (PgW_isWritten0 hW hi hI hk) ?_
      refine V_if_ne 65 d_PgW_writeItem_60 (by decide) (fun h60 => ?_) (fun h60 => ?_)
      · rw [if_neg h60] at hE
        refine V_aload_n d_PgW_writeItem_65 rfl (isr_ref _) ?_
        refine V_lload_n d_PgW_writeItem_66 rfl ?_
        refine V_l2i d_PgW_writeItem_67 ?_
        refine V_lload d_PgW_writeItem_68 rfl ?_
        refine V_l2i d_PgW_writeItem_70 ?_
        refine VW_call (L1 := wiLB s i I) (As := [.int (rgO (xG s i).1 I).toInt32, .int (dnO (xG s i).1 I).toInt32]) (rest := []) (T' := T_PgW) (Nn := 8) (if I 0 = 1 then ruL (xG (wiB s i I) i).1 I else wl1 (wiB s i I) I m) hE (PW_c (p := 1) hW (by omega) (fun _ => rfl)) rfl d_PgW_writeItem_71 c_PgW_69 ⟨by decide, by decide⟩ rfl rfl (Nat.le_of_ble_eq_true rfl) (fun hE => PgW_moveTo hW hE) (fun r M1 hq9 hE => ?_)
        obtain ⟨rfl, hW⟩ := hq9
        have hW : PW ac adr (wiB s i I) Z M1 := hW
        rw [wiB_F] at hE ⊢
        refine V_aload_n d_PgW_writeItem_74 rfl (isr_ref _) ?_
        refine V_getf d_PgW_writeItem_75 f_PgW_116 (PW_z hW hI) rfl ?_
        refine V_ifnull 94 (isr_null) d_PgW_writeItem_78 (by decide) (fun h78 => ?_) (fun a78 h78 => ?_)
        · refine V_aload_n d_PgW_writeItem_94 rfl (isr_ref _) ?_
          refine V_getf d_PgW_writeItem_95 f_PgW_124 (PW_z hW hI) rfl ?_
          refine V_iconst (v := 1) d_PgW_writeItem_98 (by decide) ?_
          refine V_icmp_ne 111 d_PgW_writeItem_99 (by decide) (fun h99 => ?_) (fun h99 => ?_)
          · rw [if_neg h99] at hE
            refine V_aload_n d_PgW_writeItem_111 rfl (isr_ref _) ?_
            refine V_aload_n d_PgW_writeItem_112 rfl (isr_ref _) ?_
            refine VW_call (L1 := wl1 (wiB s i I) I m) (As := [.ref a]) (rest := []) (T' := T_PgW) (Nn := 8) [] (FE_0 hE) (PW_c (p := 1) hW (by omega) (fun _ => rfl)) rfl d_PgW_writeItem_113 c_PgW_131 ⟨by decide, by decide⟩ rfl rfl (Nat.le_of_ble_eq_true rfl) (fun hE => PgW_writeCharacter hW hI hm (hf h99) hE) (fun r M1 hq9 hE => ?_)
            obtain ⟨rfl, hW⟩ := hq9
            refine V_aload_n d_PgW_writeItem_116 rfl (isr_ref _) ?_
            exact V_areturn d_PgW_writeItem_117 rfl (Or.inl ⟨_, rfl⟩) (isr_ref _) ⟨rfl, by rw [wi0, if_neg hno, if_neg h60, if_neg h99]; exact hW⟩
          · have h99 := Classical.not_not.mp h99
            rw [if_pos h99] at hE
            refine V_aload_n d_PgW_writeItem_102 rfl (isr_ref _) ?_
            refine V_aload_n d_PgW_writeItem_103 rfl (isr_ref _) ?_
            refine V_aload_n d_PgW_writeItem_104 rfl (isr_ref _) ?_
            refine VW_call (L1 := ruL (xG (wiB s i I) i).1 I) (As := [.ref (adr (9 + 3 * i)), .ref a]) (rest := []) (T' := T_PgW) (Nn := 8) [] (FE_0 hE) (PW_c (p := 1) hW (by omega) (fun _ => rfl)) rfl d_PgW_writeItem_105 c_PgW_127 ⟨by decide, by decide⟩ rfl rfl (Nat.le_of_ble_eq_true rfl) (fun hE => PgW_writeRule hW hi2 hI hE) (fun r M1 hq9 hE => ?_)
            obtain ⟨rfl, hW⟩ := hq9
            refine V_goto 116 d_PgW_writeItem_108 (by decide) ?_
            refine V_aload_n d_PgW_writeItem_116 rfl (isr_ref _) ?_
            exact V_areturn d_PgW_writeItem_117 rfl (Or.inl ⟨_, rfl⟩) (isr_ref _) ⟨rfl, by rw [wi0, if_neg hno, if_neg h60, if_pos h99]; exact hW⟩
        · cases h78
      · refine V_aload_n d_PgW_writeItem_63 rfl (isr_ref _) ?_
        have h60 := Classical.not_not.mp h60
        exact V_areturn d_PgW_writeItem_64 rfl (Or.inl ⟨_, rfl⟩) (isr_ref _) ⟨rfl, by rw [wi0, if_neg hno, if_pos h60]; exact hW⟩
    · refine V_aload_n d_PgW_writeItem_41 rfl (isr_ref _) ?_
      refine V_iconst (v := 1) d_PgW_writeItem_42 (by decide) ?_
      refine VW_put hW (by omega) d_PgW_writeItem_43 f_PgW_56 (fun _ => rfl) (by decide) (by decide) (Nat.le_of_ble_eq_true rfl) (fun _ => pC_w27 _) rfl rfl (fun M1 hW => ?_)
      refine V_aload_n d_PgW_writeItem_46 rfl (isr_ref _) ?_
      exact V_areturn d_PgW_writeItem_47 rfl (Or.inl ⟨_, rfl⟩) (isr_ref _) ⟨rfl, by rw [wi0, if_pos (Or.inr (Classical.not_not.mp h38))]; exact hW⟩
set_option maxRecDepth 100000 in
set_option maxHeartbeats 400000 in
theorem PgW_writeItem1 {l : Launch} {D : va_G} {ac : Nat → ClassId} {adr : Nat → Nat} {s : PS} {Z M : MP} {jE : Nat} (hW : PW ac adr s Z M) {i a q nE : Nat} (hi : i < xN s) {I : Nat → Int32} {nx : Value} {v w h d it ne : Int32} {fo : Option Nat} (hI : Z a = some (.inr (5, itv I (.ref q) nx))) (hB : Z q = some (.inr (1, bxv v w h d (va_rf fo) it ne))) (hz : isz1 v) (hk : I 0 = 3) (hN : xN (wi1 s i I v w h d fo) ≤ nE) (hE : FE (xF s) (wl1b s i I v h fo) jE) : Ct l D (tyl ac) t_PgW_writeItem (bk jE (xF s) (3 * (nE - xN s))) (bs jE (xF s) (23 * (nE - xN s))) [.ref (adr 1), .ref (adr (9 + 3 * i)), .ref a] M (fun r M' => ∃ adr' : Nat → Nat, (∀ p, p < 9 + 3 * xN s → adr' p = adr p) ∧ r = some (.ref (adr' (9 + 3 * wi1i s i I v h fo))) ∧ PW ac adr' (wi1 s i I v w h d fo) Z M') := by
  have hwN := wiB_N s i I
  have hi2 : i < xN (wiB s i I) := by rw [hwN]; exact hi
  refine Ct_of (by decide) (Nat.le_of_ble_eq_true rfl) ?_
  unfold wl1b at hE
  refine V_aload_n d_PgW_writeItem_0 rfl (isr_ref _) ?_
  refine V_aload_n d_PgW_writeItem_1 rfl (isr_ref _) ?_
  refine V_rd (As := [.ref a]) (rest := []) (T := T_Fra) (N := 13) (PW_fr hW hi) rfl d_PgW_writeItem_2 c_PgW_91 ⟨by decide, by decide⟩ rfl rfl (Nat.le_of_ble_eq_true rfl) (Fra_rightOfW hW hi hI) ?_
  refine V_lstore_n (lv' := [(3, .long (rgO (xG s i).1 I)), (0, .ref (adr 1)), (1, .ref (adr (9 + 3 * i))), (2, .ref a)]) d_PgW_writeItem_5 (by decide) rfl ?_
  refine V_aload_n d_PgW_writeItem_6 rfl (isr_ref _) ?_
  refine V_aload_n d_PgW_writeItem_7 rfl (isr_ref _) ?_
  refine V_rd (As := [.ref a]) (rest := []) (T := T_Fra) (N := 13) (PW_fr hW hi) rfl d_PgW_writeItem_8 c_PgW_95 ⟨by decide, by decide⟩ rfl rfl (Nat.le_of_ble_eq_true rfl) (Fra_downOfW hW hi hI) ?_
  refine V_lstore (lv' := [(5, .long (dnO (xG s i).1 I)), (3, .long (rgO (xG s i).1 I)), (0, .ref (adr 1)), (1, .ref (adr (9 + 3 * i))), (2, .ref a)]) d_PgW_writeItem_11 (by decide) rfl ?_
  refine V_aload_n d_PgW_writeItem_13 rfl (isr_ref _) ?_
  refine V_aload_n d_PgW_writeItem_14 rfl (isr_ref _) ?_
  refine V_rd (As := [.ref a]) (rest := []) (T := T_Fra) (N := 13) (PW_fr hW hi) rfl d_PgW_writeItem_15 c_PgW_98 ⟨by decide, by decide⟩ rfl rfl (Nat.le_of_ble_eq_true rfl) (Fra_behindW hW hi hI) ?_
  refine V_lstore (lv' := [(7, .long (beO (xG s i).1 I)), (5, .long (dnO (xG s i).1 I)), (3, .long (rgO (xG s i).1 I)), (0, .ref (adr 1)), (1, .ref (adr (9 + 3 * i))), (2, .ref a)]) d_PgW_writeItem_18 (by decide) rfl ?_
  refine V_lload_n d_PgW_writeItem_20 rfl ?_
  refine V_lload d_PgW_writeItem_21 rfl ?_
  refine V_lload d_PgW_writeItem_23 rfl ?_
  refine VS_ci3N d_PgW_writeItem_25 c_PgW_101 (PF_areSizes _ _ _) ⟨by decide, by decide⟩ (Nat.le_of_ble_eq_true rfl) ?_
  refine V_if_eq 41 d_PgW_writeItem_28 (by decide) (fun h28 => ?_) (fun h28 => ?_)
  · refine V_aload_n d_PgW_writeItem_41 rfl (isr_ref _) ?_
    refine V_iconst (v := 1) d_PgW_writeItem_42 (by decide) ?_
    refine VW_put hW (by omega) d_PgW_writeItem_43 f_PgW_56 (fun _ => rfl) (by decide) (by decide) (Nat.le_of_ble_eq_true rfl) (fun _ => pC_w27 _) rfl rfl (fun M1 hW => ?_)
    refine V_aload_n d_PgW_writeItem_46 rfl (isr_ref _) ?_
    exact V_areturn d_PgW_writeItem_47 rfl (Or.inl ⟨_, rfl⟩) (isr_ref _) ⟨adr, fun _ _ => rfl, by rw [wi1i, if_pos (Or.inl h28)], by rw [wi1, if_pos (Or.inl h28)]; exact hW⟩
  · refine V_aload_n d_PgW_writeItem_31 rfl (isr_ref _) ?_
    refine V_aload_n d_PgW_writeItem_32 rfl (isr_ref _) ?_
    refine V_lload d_PgW_writeItem_33 rfl ?_
    refine V_rdS (As := [.ref (adr (9 + 3 * i)), .ref a, .long (dnO (xG s i).1 I)]) (rest := []) d_PgW_writeItem_35 c_PgW_105 ⟨by decide, by decide⟩ rfl rfl (Nat.le_of_ble_eq_true rfl) (PgW_canStand1 hW hi hI hB _) ?_
    refine V_if_ne 48 d_PgW_writeItem_38 (by decide) (fun h38 => ?_) (fun h38 => ?_)
    · have hno : ¬ (wiZ (xG s i).1 I ∨ csb (xG s i).1 I v h (dnO (xG s i).1 I) = 0) := fun z => z.elim h28 h38
      rw [if_neg hno] at hE
      refine V_aload_n d_PgW_writeItem_48 rfl (isr_ref _) ?_
      refine V_lload d_PgW_writeItem_49 rfl ?_
      refine V_l2i d_PgW_writeItem_51 ?_
      refine VW_putN hW (by omega) d_PgW_writeItem_52 f_PgW_109 (fun _ => pC_g i) (rfl) (rfl) (Nat.le_of_ble_eq_true rfl) (fun _ => pC_ug i (va_up (xG s i).1 11 (beO (xG s i).1 I).toInt32) _) rfl rfl (fun M1 hW => ?_)
      have hW : PW ac adr (wiA s i I) Z M1 := hW
      refine V_aload_n d_PgW_writeItem_55 rfl (isr_ref _) ?_
      refine V_aload_n d_PgW_writeItem_56 rfl (isr_ref _) ?_
      refine V_rdS (As := [.ref (adr (9 + 3 * i)), .ref a]) (rest := []) d_PgW_writeItem_57 c_PgW_112 ⟨by decide, by decide⟩ rfl rfl (Nat.le_of_ble_eq_true rfl) (PgW_isWritten1 hW hI hB hk) ?_
      refine V_if_ne 65 d_PgW_writeItem_60 (by decide) (fun h60 => ?_) (fun h60 => ?_)
      · rw [if_neg h60] at hE
        refine V_aload_n d_PgW_writeItem_65 rfl (isr_ref _) ?_
        refine V_lload_n d_PgW_writeItem_66 rfl ?_
        refine V_l2i d_PgW_writeItem_67 ?_
        refine V_lload d_PgW_writeItem_68 rfl ?_
        refine V_l2i d_PgW_writeItem_70 ?_
        refine VW_call (L1 := wiLB s i I) (As := [.int (rgO (xG s i).1 I).toInt32, .int (dnO (xG s i).1 I).toInt32]) (rest := []) (T' := T_PgW) (Nn := 8) [(141, 1)] hE (PW_c (p := 1) hW (by omega) (fun _ => rfl)) rfl d_PgW_writeItem_71 c_PgW_69 ⟨by decide, by decide⟩ rfl rfl (Nat.le_of_ble_eq_true rfl) (fun hE => PgW_moveTo hW hE) (fun r M1 hq9 hE => ?_)
        obtain ⟨rfl, hW⟩ := hq9
        have hW : PW ac adr (wiB s i I) Z M1 := hW
        rw [wiB_F] at hE ⊢
        refine V_aload_n d_PgW_writeItem_74 rfl (isr_ref _) ?_
        refine V_getf d_PgW_writeItem_75 f_PgW_116 (PW_z hW hI) rfl ?_
        refine V_ifnull 94 (isr_ref _) d_PgW_writeItem_78 (by decide) (fun h78 => ?_) (fun a78 h78 => ?_)
        · cases h78
        · refine V_aload_n d_PgW_writeItem_81 rfl (isr_ref _) ?_
          refine V_aload_n d_PgW_writeItem_82 rfl (isr_ref _) ?_
          have hnn := inS_N hi2
          have hnE : xN (inS (wiB s i I) i) ≤ nE := by rw [wi1, if_neg hno, if_neg h60, enS_N] at hN; exact hN
          refine V_callV (As := []) (rest := [.ref (adr 1)]) (T := T_Fra) (N := 13) (k' := bk jE (xF (wiB s i I)) (3 * (nE - xN (inS (wiB s i I) i)))) (n' := bs jE (xF (wiB s i I)) (23 * (nE - xN (inS (wiB s i I) i)))) (PW_fr hW hi2) rfl d_PgW_writeItem_83 c_PgW_120 ⟨by decide, by decide⟩ rfl rfl (Nat.le_of_ble_eq_true rfl) (by rw [← hwN]; unfold bk; omega) (by rw [← hwN]; unfold bs; omega) (Fra_inside hW hi2) (fun x M1 hq9 => ?_)
          obtain ⟨adr2, g1, rfl, hW⟩ := hq9
          have a1 : adr 1 = adr2 1 := (g1 1 (by omega)).symm
          rw [a1]
          rw [← inS_F (wiB s i I) i] at hE ⊢
          refine V_aload_n d_PgW_writeItem_86 rfl (isr_ref _) ?_
          refine V_getf d_PgW_writeItem_87 f_PgW_116 (PW_z hW hI) rfl ?_
          refine VW_call (L1 := [(141, 1)]) (As := [.ref (adr2 (9 + 3 * (i + 1))), .ref q]) (rest := []) (T' := T_PgW) (Nn := 8) [] (FE_0 hE) (PW_c (p := 1) hW (by omega) (fun _ => rfl)) rfl d_PgW_writeItem_90 c_PgW_73 ⟨by decide, by decide⟩ rfl rfl (Nat.le_of_ble_eq_true rfl) (fun hE => PgW_enter hW hnn.2 hB hz hE) (fun r M1 hq9 hE => ?_)
          obtain ⟨rfl, hW⟩ := hq9
          exact V_areturn d_PgW_writeItem_93 rfl (Or.inl ⟨_, rfl⟩) (isr_ref _) ⟨adr2, fun p hp => g1 p (by rw [hwN]; exact hp), by rw [wi1i, if_neg hno, if_neg h60], by rw [wi1, if_neg hno, if_neg h60]; exact hW⟩
      · refine V_aload_n d_PgW_writeItem_63 rfl (isr_ref _) ?_
        have h60 := Classical.not_not.mp h60
        exact V_areturn d_PgW_writeItem_64 rfl (Or.inl ⟨_, rfl⟩) (isr_ref _) ⟨adr, fun _ _ => rfl, by rw [wi1i, if_neg hno, if_pos h60], by rw [wi1, if_neg hno, if_pos h60]; exact hW⟩
    · refine V_aload_n d_PgW_writeItem_41 rfl (isr_ref _) ?_
      refine V_iconst (v := 1) d_PgW_writeItem_42 (by decide) ?_
      refine VW_put hW (by omega) d_PgW_writeItem_43 f_PgW_56 (fun _ => rfl) (by decide) (by decide) (Nat.le_of_ble_eq_true rfl) (fun _ => pC_w27 _) rfl rfl (fun M1 hW => ?_)
      refine V_aload_n d_PgW_writeItem_46 rfl (isr_ref _) ?_
      exact V_areturn d_PgW_writeItem_47 rfl (Or.inl ⟨_, rfl⟩) (isr_ref _) ⟨adr, fun _ _ => rfl, by rw [wi1i, if_pos (Or.inr (Classical.not_not.mp h38))], by rw [wi1, if_pos (Or.inr (Classical.not_not.mp h38))]; exact hW⟩
