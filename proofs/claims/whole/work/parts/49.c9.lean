/-! writeCharacter, writeRule, enter, leave -/
/-- a call that only answers -/
theorem V_rd {l : Launch} {D : va_G} {tys : TY} {t t' : MT} {k n pc i na : Nat} {lv : List (Nat × Value)} {rest st As : List Value} {M : MP} {Q : Option Value → MP → Prop} {b ci N : Nat} {T : u_T} {fs : List Value} {v : Value} (ha : M b = some (.inr (ci, fs))) (hcl : cls[ci]? = some (t'.1.cls, T, N)) (hd : decode t.2.1 pc = .ok (.invokevirtual i, 3)) (ok : OKV t.1.cls i t' na) (hR : rmf t t') (hna : As.length = na) (hst : st = As.reverse ++ .ref b :: rest) (hW9 : (rest.map fun v => v.category).sum ≤ 8) (ct : Ct l D tys t' 0 0 (.ref b :: As) M (PQ (some v) M)) (h : V l D tys t k n (pc + 3) lv (v :: rest) M Q) : V l D tys t k n pc lv st M Q := V_callV ha hcl hd ok hR hna hst hW9 rfl rfl ct (fun x M' hq => by obtain ⟨rfl, rfl⟩ := hq; exact h)
theorem V_rdS {l : Launch} {D : va_G} {tys : TY} {t t' : MT} {k n pc i na : Nat} {lv : List (Nat × Value)} {rest st As : List Value} {M : MP} {Q : Option Value → MP → Prop} {v : Value} (hd : decode t.2.1 pc = .ok (.invokestatic i, 3)) (ok : OKS t.1.cls i t' na) (hR : rmf t t') (hna : As.length = na) (hst : st = As.reverse ++ rest) (hW9 : (rest.map fun v => v.category).sum ≤ 8) (ct : Ct l D tys t' 0 0 As M (PQ (some v) M)) (h : V l D tys t k n (pc + 3) lv (v :: rest) M Q) : V l D tys t k n pc lv st M Q := V_callS hd ok hR hna hst hW9 rfl rfl ct (fun x M' hq => by obtain ⟨rfl, rfl⟩ := hq; exact h)
/-- a call that makes nothing -/
theorem V_c0 {l : Launch} {D : va_G} {tys : TY} {t t' : MT} {k n pc i na : Nat} {lv : List (Nat × Value)} {rest st As : List Value} {M : MP} {Q : Option Value → MP → Prop} {b ci N : Nat} {T : u_T} {fs : List Value} {Q' : Option Value → MP → Prop} (ha : M b = some (.inr (ci, fs))) (hcl : cls[ci]? = some (t'.1.cls, T, N)) (hd : decode t.2.1 pc = .ok (.invokevirtual i, 3)) (ok : OKV t.1.cls i t' na) (hR : rmf t t') (hna : As.length = na) (hst : st = As.reverse ++ .ref b :: rest) (hW9 : (rest.map fun v => v.category).sum ≤ 8) (ct : Ct l D tys t' 0 0 (.ref b :: As) M Q') (h : ∀ r M', Q' r M' → V l D tys t k n (pc + 3) lv (r.toList ++ rest) M' Q) : V l D tys t k n pc lv st M Q := V_callV ha hcl hd ok hR hna hst hW9 rfl rfl ct h
def wc5 (s : PS) (I : Nat → Int32) : PS := uT s 0 ((xT s 0).1 + I 1, (xT s 0).2)
def wc4 (s : PS) (I : Nat → Int32) : PS := wc5 (uF s (fadd (xF s) (I 5) 1)) I
def wl3 (I : Nat → Int32) : List (Int32 × Nat) := if I 5 < 128 then [(I 5, 1)] else [(128, 1), (I 5, 1)]
def wc3 (s : PS) (I : Nat → Int32) : PS := if I 5 < 128 then wc4 s I else wc4 (uF s (fadd (xF s) 128 1)) I
def wl2 (s : PS) (I : Nat → Int32) : List (Int32 × Nat) := if I 4 = s.1 25 then wl3 I else (171 + I 4, 1) :: wl3 I
def wc2 (s : PS) (I : Nat → Int32) : PS := if I 4 = s.1 25 then wc3 s I else wc3 (uI (uF s (fadd (xF s) (171 + I 4) 1)) 25 (I 4)) I
def wl1 (s : PS) (I : Nat → Int32) (m : Nat) : List (Int32 × Nat) := if fus (s.1 30) (I 4) = 0 then fnL s m ++ wl2 s I else wl2 s I
def wc1 (s : PS) (I : Nat → Int32) (m : Nat) : PS := if fus (s.1 30) (I 4) = 0 then wc2 (fnS s m) I else wc2 s I
theorem wc3_F (s : PS) (I : Nat → Int32) : xF (wc3 s I) = fwr (xF s) (wl3 I) := by unfold wc3 wl3; split <;> rfl
theorem wc2_F (s : PS) (I : Nat → Int32) : xF (wc2 s I) = fwr (xF s) (wl2 s I) := by
  unfold wc2 wl2
  split
  · exact wc3_F s I
  · exact wc3_F _ I
theorem wc1_F (s : PS) (I : Nat → Int32) (m : Nat) : xF (wc1 s I m) = fwr (xF s) (wl1 s I m) := by
  unfold wc1 wl1
  split
  · rw [fwr_app]; exact wc2_F (fnS s m) I
  · exact wc2_F s I
set_option maxRecDepth 100000 in
set_option maxHeartbeats 4000000 in
theorem wC_85 {l : Launch} {D : va_G} {ac : Nat → ClassId} {adr : Nat → Nat} {s : PS} {Z M : MP} {jE : Nat} (hW : PW ac adr s Z M) {a : Nat} {I : Nat → Int32} {bx nx : Value} (hI : Z a = some (.inr (5, itv I bx nx))) (hE : FE (xF s) [(I 5, 1)] jE) : V l D (tyl ac) t_PgW_writeCharacter (bk jE (xF s) 0) (bs jE (xF s) 0) 85 [(0, .ref (adr 1)), (1, .ref a)] [] M (fun r M' => r = none ∧ PW ac adr (wc4 s I) Z M') := by
  refine V_aload_n d_PgW_writeCharacter_85 rfl (isr_ref _) ?_
  refine V_getf d_PgW_writeCharacter_86 f_PgW_12 (PW_c hW (by omega) (fun _ => rfl)) rfl ?_
  refine V_aload_n d_PgW_writeCharacter_89 rfl (isr_ref _) ?_
  refine V_getf d_PgW_writeCharacter_90 f_PgW_167 (PW_z hW hI) rfl ?_
  refine V_iconst (v := nI 1) d_PgW_writeCharacter_93 (by decide) ?_
  refine VW_add (t := t_PgW_writeCharacter) hW [] hE (by decide) d_PgW_writeCharacter_94 c_PgW_164 ⟨by decide, by decide⟩ (Nat.le_of_ble_eq_true rfl) (fun M1 hW => ?_)
  replace hE := FE_t hE
  refine V_aload_n d_PgW_writeCharacter_97 rfl (isr_ref _) ?_
  refine V_getf d_PgW_writeCharacter_98 f_PgW_30 (PW_c hW (by omega) (fun _ => rfl)) rfl ?_
  refine V_dup d_PgW_writeCharacter_101 rfl ?_
  refine V_getfN d_PgW_writeCharacter_102 f_PgW_170 (PW_c hW (by omega) (fun _ => rfl)) rfl ?_
  refine V_aload_n d_PgW_writeCharacter_105 rfl (isr_ref _) ?_
  refine V_getf d_PgW_writeCharacter_106 f_PgW_173 (PW_z hW hI) rfl ?_
  refine V_iadd d_PgW_writeCharacter_109 ?_
  refine VW_putN hW (by omega) d_PgW_writeCharacter_110 f_PgW_170 (fun _ => rfl) (rfl) (rfl) (Nat.le_of_ble_eq_true rfl) (fun _ => pC_t0 ((xT s 0).1 + I 1, (xT s 0).2)) rfl rfl (fun M1 hW => ?_)
  exact V_return d_PgW_writeCharacter_113 rfl ⟨rfl, hW⟩
set_option maxRecDepth 100000 in
set_option maxHeartbeats 4000000 in
theorem wC_64 {l : Launch} {D : va_G} {ac : Nat → ClassId} {adr : Nat → Nat} {s : PS} {Z M : MP} {jE : Nat} (hW : PW ac adr s Z M) {a : Nat} {I : Nat → Int32} {bx nx : Value} (hI : Z a = some (.inr (5, itv I bx nx))) (hE : FE (xF s) (wl3 I) jE) : V l D (tyl ac) t_PgW_writeCharacter (bk jE (xF s) 0) (bs jE (xF s) 0) 64 [(0, .ref (adr 1)), (1, .ref a)] [] M (fun r M' => r = none ∧ PW ac adr (wc3 s I) Z M') := by
  unfold wl3 at hE
  refine V_aload_n d_PgW_writeCharacter_64 rfl (isr_ref _) ?_
  refine V_getf d_PgW_writeCharacter_65 f_PgW_167 (PW_z hW hI) rfl ?_
  refine V_sipush (v := 128) d_PgW_writeCharacter_68 (by decide) ?_
  refine V_icmp_lt 85 d_PgW_writeCharacter_71 (by decide) (fun h71 => ?_) (fun h71 => ?_)
  · rw [if_pos h71] at hE
    rw [wc3, if_pos h71]
    exact wC_85 hW hI hE
  · rw [if_neg h71] at hE
    rw [wc3, if_neg h71]
    refine V_aload_n d_PgW_writeCharacter_74 rfl (isr_ref _) ?_
    refine V_getf d_PgW_writeCharacter_75 f_PgW_12 (PW_c hW (by omega) (fun _ => rfl)) rfl ?_
    refine V_sipush (v := 128) d_PgW_writeCharacter_78 (by decide) ?_
    refine V_iconst (v := nI 1) d_PgW_writeCharacter_81 (by decide) ?_
    refine VW_add (t := t_PgW_writeCharacter) hW [(I 5, 1)] hE (by decide) d_PgW_writeCharacter_82 c_PgW_164 ⟨by decide, by decide⟩ (Nat.le_of_ble_eq_true rfl) (fun M1 hW => ?_)
    replace hE := FE_t hE
    exact wC_85 hW hI hE
set_option maxRecDepth 100000 in
set_option maxHeartbeats 4000000 in
theorem wC_29 {l : Launch} {D : va_G} {ac : Nat → ClassId} {adr : Nat → Nat} {s : PS} {Z M : MP} {jE : Nat} (hW : PW ac adr s Z M) {a : Nat} {I : Nat → Int32} {bx nx : Value} (hI : Z a = some (.inr (5, itv I bx nx))) (hE : FE (xF s) (wl2 s I) jE) : V l D (tyl ac) t_PgW_writeCharacter (bk jE (xF s) 0) (bs jE (xF s) 0) 29 [(0, .ref (adr 1)), (1, .ref a)] [] M (fun r M' => r = none ∧ PW ac adr (wc2 s I) Z M') := by
  unfold wl2 at hE
  refine V_aload_n d_PgW_writeCharacter_29 rfl (isr_ref _) ?_
  refine V_getf d_PgW_writeCharacter_30 f_PgW_153 (PW_z hW hI) rfl ?_
  refine V_aload_n d_PgW_writeCharacter_33 rfl (isr_ref _) ?_
  refine V_getf d_PgW_writeCharacter_34 f_PgW_49 (PW_c hW (by omega) (fun _ => rfl)) rfl ?_
  refine V_icmp_eq 64 d_PgW_writeCharacter_37 (by decide) (fun h37 => ?_) (fun h37 => ?_)
  · rw [if_pos h37] at hE
    rw [wc2, if_pos h37]
    exact wC_64 hW hI hE
  · rw [if_neg h37] at hE
    rw [wc2, if_neg h37]
    refine V_aload_n d_PgW_writeCharacter_40 rfl (isr_ref _) ?_
    refine V_getf d_PgW_writeCharacter_41 f_PgW_12 (PW_c hW (by omega) (fun _ => rfl)) rfl ?_
    refine V_sipush (v := 171) d_PgW_writeCharacter_44 (by decide) ?_
    refine V_aload_n d_PgW_writeCharacter_47 rfl (isr_ref _) ?_
    refine V_getf d_PgW_writeCharacter_48 f_PgW_153 (PW_z hW hI) rfl ?_
    refine V_iadd d_PgW_writeCharacter_51 ?_
    refine V_iconst (v := nI 1) d_PgW_writeCharacter_52 (by decide) ?_
    refine VW_add (t := t_PgW_writeCharacter) hW (wl3 I) hE (by decide) d_PgW_writeCharacter_53 c_PgW_164 ⟨by decide, by decide⟩ (Nat.le_of_ble_eq_true rfl) (fun M1 hW => ?_)
    replace hE := FE_t hE
    refine V_aload_n d_PgW_writeCharacter_56 rfl (isr_ref _) ?_
    refine V_aload_n d_PgW_writeCharacter_57 rfl (isr_ref _) ?_
    refine V_getf d_PgW_writeCharacter_58 f_PgW_153 (PW_z hW hI) rfl ?_
    refine VW_put hW (by omega) d_PgW_writeCharacter_61 f_PgW_49 (fun _ => rfl) (rfl) (rfl) (Nat.le_of_ble_eq_true rfl) (fun _ => pC_w25 _) rfl rfl (fun M1 hW => ?_)
    exact wC_64 hW hI hE
theorem Fon_isUsedW {l : Launch} {D : va_G} {ac : Nat → ClassId} {adr : Nat → Nat} {s : PS} {Z M : MP} (hW : PW ac adr s Z M) (x : Int32) : Ct l D (tyl ac) t_Fon_isUsed 0 0 [.ref (adr 3), .int x] M (PQ (some (.int (fus (s.1 30) x))) M) := by
  obtain ⟨ra, N, h0, hR, hZ, hk, rfl⟩ := hW
  exact Fon_isUsed (a1 := 0) (a2 := 0) h0 (p := 3) (List.mem_range.mpr (by omega)) rfl x
theorem V_eqi2 {l : Launch} {D : va_G} {tys : TY} {t : MT} {k n pc : Nat} {lv : List (Nat × Value)} {st : List Value} {M : MP} {Q : Option Value → MP → Prop} {x y : Int32} {u : Value} (he : x = y) (h : V l D tys t k n pc lv (u :: .int y :: st) M Q) : V l D tys t k n pc lv (u :: .int x :: st) M Q := he ▸ h
set_option maxRecDepth 100000 in
set_option maxHeartbeats 4000000 in
theorem PgW_writeCharacter {l : Launch} {D : va_G} {ac : Nat → ClassId} {adr : Nat → Nat} {s : PS} {Z M : MP} {jE : Nat} (hW : PW ac adr s Z M) {a : Nat} {I : Nat → Int32} {bx nx : Value} (hI : Z a = some (.inr (5, itv I bx nx))) {m : Nat} (hm : m < 32) (hf : I 4 = nI m) (hE : FE (xF s) (wl1 s I m) jE) : Ct l D (tyl ac) t_PgW_writeCharacter (bk jE (xF s) 0) (bs jE (xF s) 0) [.ref (adr 1), .ref a] M (fun r M' => r = none ∧ PW ac adr (wc1 s I m) Z M') := by
  refine Ct_of (by decide) (Nat.le_of_ble_eq_true rfl) ?_
  unfold wl1 at hE
  refine V_aload_n d_PgW_writeCharacter_0 rfl (isr_ref _) ?_
  refine V_getf d_PgW_writeCharacter_1 f_PgW_21 (PW_c hW (by omega) (fun _ => rfl)) rfl ?_
  refine V_aload_n d_PgW_writeCharacter_4 rfl (isr_ref _) ?_
  refine V_getf d_PgW_writeCharacter_5 f_PgW_153 (PW_z hW hI) rfl ?_
  refine V_rd (As := [.int (I 4)]) (rest := []) (T := T_Fon) (N := 3) (PW_c (p := 3) hW (by omega) (fun _ => rfl)) rfl d_PgW_writeCharacter_8 c_PgW_156 ⟨by decide, by decide⟩ rfl rfl (Nat.le_of_ble_eq_true rfl) (Fon_isUsedW hW _) ?_
  refine V_if_ne 29 d_PgW_writeCharacter_11 (by decide) (fun h11 => ?_) (fun h11 => ?_)
  · rw [if_neg h11] at hE
    rw [wc1, if_neg h11]
    exact wC_29 hW hI hE
  · have h11 := Classical.not_not.mp h11
    rw [if_pos h11] at hE
    rw [wc1, if_pos h11]
    refine V_aload_n d_PgW_writeCharacter_14 rfl (isr_ref _) ?_
    refine V_getf d_PgW_writeCharacter_15 f_PgW_21 (PW_c hW (by omega) (fun _ => rfl)) rfl ?_
    refine V_aload_n d_PgW_writeCharacter_18 rfl (isr_ref _) ?_
    refine V_getf d_PgW_writeCharacter_19 f_PgW_153 (PW_z hW hI) rfl ?_
    refine V_aload_n d_PgW_writeCharacter_22 rfl (isr_ref _) ?_
    refine V_getf d_PgW_writeCharacter_23 f_PgW_12 (PW_c hW (by omega) (fun _ => rfl)) rfl ?_
    refine V_eqi2 hf ?_
    refine VW_call (t := t_PgW_writeCharacter) (pc := 26) (L1 := fnL s m) (As := [.int (nI m), .ref (adr 2)]) (rest := []) (T' := T_Fon) (Nn := 3) (wl2 s I) hE (PW_c (p := 3) hW (by omega) (fun _ => rfl)) rfl d_PgW_writeCharacter_26 c_PgW_160 ⟨by decide, by decide⟩ rfl rfl (Nat.le_of_ble_eq_true rfl) (fun hE => Fon_write hW hm hE) (fun r M1 hq9 hE => ?_)
    obtain ⟨rfl, hW⟩ := hq9
    exact wC_29 hW hI hE
def ruL (F I : Nat → Int32) : List (Int32 × Nat) := [(if F 5 = 0 then 132 else 137, 1), ((exO F I).toInt32, 4), (wOf F I, 4)]
def ruS (s : PS) (F I : Nat → Int32) : PS := if F 5 = 0 then wc5 (uF s (fwr (xF s) (ruL F I))) I else uF s (fwr (xF s) (ruL F I))
theorem ruS_F (s : PS) (F I : Nat → Int32) : xF (ruS s F I) = fwr (xF s) (ruL F I) := by unfold ruS; split <;> rfl
theorem PW_fr {ac : Nat → ClassId} {adr : Nat → Nat} {s : PS} {Z M : MP} (h : PW ac adr s Z M) {i : Nat} (hi : i < xN s) : M (adr (9 + 3 * i)) = some (.inr (4, frv (frF i (xG s i).1) (frO adr i) (adr (10 + 3 * i)) (adr (11 + 3 * i)) (frN adr (xN s) i) (va_rf (xG s i).2.1))) := PW_c h (by omega) (fun _ => pC_g i)
set_option maxRecDepth 100000 in
set_option maxHeartbeats 4000000 in
theorem PgW_writeRule {l : Launch} {D : va_G} {ac : Nat → ClassId} {adr : Nat → Nat} {s : PS} {Z M : MP} {jE : Nat} (hW : PW ac adr s Z M) {i a : Nat} (hi : i < xN s) {I : Nat → Int32} {bx nx : Value} (hI : Z a = some (.inr (5, itv I bx nx))) (hE : FE (xF s) (ruL (xG s i).1 I) jE) : Ct l D (tyl ac) t_PgW_writeRule (bk jE (xF s) 0) (bs jE (xF s) 0) [.ref (adr 1), .ref (adr (9 + 3 * i)), .ref a] M (fun r M' => r = none ∧ PW ac adr (ruS s (xG s i).1 I) Z M') := by
  refine Ct_of (by decide) (Nat.le_of_ble_eq_true rfl) ?_
  unfold ruL at hE
  have key : V l D (tyl ac) t_PgW_writeRule (bk jE (xF s) 0) (bs jE (xF s) 0) 20 [(0, .ref (adr 1)), (1, .ref (adr (9 + 3 * i))), (2, .ref a)] [.int (if (xG s i).1 5 = 0 then 132 else 137), .ref (adr 2)] M (fun r M' => r = none ∧ PW ac adr (ruS s (xG s i).1 I) Z M') := by
    refine V_iconst (v := nI 1) d_PgW_writeRule_20 (by decide) ?_
    refine VW_add (t := t_PgW_writeRule) hW [((exO (xG s i).1 I).toInt32, 4), (wOf (xG s i).1 I, 4)] hE (by decide) d_PgW_writeRule_21 c_PgW_164 ⟨by decide, by decide⟩ (Nat.le_of_ble_eq_true rfl) (fun M1 hW => ?_)
    replace hE := FE_t hE
    refine V_aload_n d_PgW_writeRule_24 rfl (isr_ref _) ?_
    refine V_getf d_PgW_writeRule_25 f_PgW_12 (PW_c hW (by omega) (fun _ => rfl)) rfl ?_
    refine V_aload_n d_PgW_writeRule_28 rfl (isr_ref _) ?_
    refine V_aload_n d_PgW_writeRule_29 rfl (isr_ref _) ?_
    refine V_rd (As := [.ref a]) (rest := [.ref (adr 2)]) (T := T_Fra) (N := 13) (PW_fr hW hi) rfl d_PgW_writeRule_30 c_PgW_135 ⟨by decide, by decide⟩ rfl rfl (Nat.le_of_ble_eq_true rfl) (Fra_extentOfW hW hi hI) ?_
    refine V_l2i d_PgW_writeRule_33 ?_
    refine V_iconst (v := nI 4) d_PgW_writeRule_34 (by decide) ?_
    refine VW_add (t := t_PgW_writeRule) hW [(wOf (xG s i).1 I, 4)] hE (by decide) d_PgW_writeRule_35 c_PgW_164 ⟨by decide, by decide⟩ (Nat.le_of_ble_eq_true rfl) (fun M1 hW => ?_)
    replace hE := FE_t hE
    refine V_aload_n d_PgW_writeRule_38 rfl (isr_ref _) ?_
    refine V_getf d_PgW_writeRule_39 f_PgW_12 (PW_c hW (by omega) (fun _ => rfl)) rfl ?_
    refine V_aload_n d_PgW_writeRule_42 rfl (isr_ref _) ?_
    refine V_aload_n d_PgW_writeRule_43 rfl (isr_ref _) ?_
    refine V_rd (As := [.ref a]) (rest := [.ref (adr 2)]) (T := T_Fra) (N := 13) (PW_fr hW hi) rfl d_PgW_writeRule_44 c_PgW_145 ⟨by decide, by decide⟩ rfl rfl (Nat.le_of_ble_eq_true rfl) (Fra_widthOfW hW hi hI) ?_
    refine V_iconst (v := nI 4) d_PgW_writeRule_47 (by decide) ?_
    refine VW_add (t := t_PgW_writeRule) hW [] hE (by decide) d_PgW_writeRule_48 c_PgW_164 ⟨by decide, by decide⟩ (Nat.le_of_ble_eq_true rfl) (fun M1 hW => ?_)
    replace hE := FE_t hE
    refine V_aload_n d_PgW_writeRule_51 rfl (isr_ref _) ?_
    refine V_getfN d_PgW_writeRule_52 f_PgW_176 (PW_fr hW hi) rfl ?_
    refine V_if_ne 74 d_PgW_writeRule_55 (by decide) (fun h55 => ?_) (fun h55 => ?_)
    · exact V_return d_PgW_writeRule_74 rfl ⟨rfl, by rw [ruS, if_neg (show ¬ (xG s i).1 5 = 0 from h55)]; exact hW⟩
    · refine V_aload_n d_PgW_writeRule_58 rfl (isr_ref _) ?_
      refine V_getf d_PgW_writeRule_59 f_PgW_30 (PW_c hW (by omega) (fun _ => rfl)) rfl ?_
      refine V_dup d_PgW_writeRule_62 rfl ?_
      refine V_getfN d_PgW_writeRule_63 f_PgW_170 (PW_c hW (by omega) (fun _ => rfl)) rfl ?_
      refine V_aload_n d_PgW_writeRule_66 rfl (isr_ref _) ?_
      refine V_getf d_PgW_writeRule_67 f_PgW_173 (PW_z hW hI) rfl ?_
      refine V_iadd d_PgW_writeRule_70 ?_
      refine VW_putN hW (by omega) d_PgW_writeRule_71 f_PgW_170 (fun _ => rfl) (rfl) (rfl) (Nat.le_of_ble_eq_true rfl) (fun _ => pC_t0 ((xT s 0).1 + I 1, (xT s 0).2)) rfl rfl (fun M1 hW => ?_)
      exact V_return d_PgW_writeRule_74 rfl ⟨rfl, by rw [ruS, if_pos (show (xG s i).1 5 = 0 from Classical.not_not.mp h55)]; exact hW⟩
  refine V_aload_n d_PgW_writeRule_0 rfl (isr_ref _) ?_
  refine V_getf d_PgW_writeRule_1 f_PgW_12 (PW_c hW (by omega) (fun _ => rfl)) rfl ?_
  refine V_aload_n d_PgW_writeRule_4 rfl (isr_ref _) ?_
  refine V_getfN d_PgW_writeRule_5 f_PgW_176 (PW_fr hW hi) rfl ?_
  refine V_if_eq 17 d_PgW_writeRule_8 (by decide) (fun h8 => ?_) (fun h8 => ?_)
  · refine V_sipush (v := 132) d_PgW_writeRule_17 (by decide) ?_
    exact V_eqi (show _ = if (xG s i).1 5 = 0 then 132 else 137 from (if_pos h8).symm) key
  · refine V_sipush (v := 137) d_PgW_writeRule_11 (by decide) ?_
    refine V_goto 20 d_PgW_writeRule_14 (by decide) ?_
    exact V_eqi (show _ = if (xG s i).1 5 = 0 then 132 else 137 from (if_neg h8).symm) key
def bgF (v w h d L B : Int32) : Nat → Int32 := fun k => match k with
  | 5 => v
  | 6 => w
  | 7 => h
  | 8 => d
  | 9 => L
  | 10 => B
  | 11 => if v = 0 then L else B - h
  | _ => 0
set_option maxRecDepth 100000 in
set_option maxHeartbeats 4000000 in
theorem Fra_begin {l : Launch} {D : va_G} {ac : Nat → ClassId} {T : List Nat} {adr : Nat → Nat} {C : Nat → va_E} {N : MP} (h0 : pOK T adr N) {p p1 p2 q1 q2 b i : Nat} (hp : p ∈ T) (h1 : p1 ∈ T) (h2 : p2 ∈ T) (hq1 : q1 ∈ T) (hq2 : q2 ∈ T) (n1 : q1 ≠ p1) (n2 : q2 ≠ p2) (n3 : p ≠ p1) (n4 : p2 ≠ p1) (n5 : q2 ≠ p1) (n6 : p ≠ p2) (n7 : q1 ≠ p2) (n8 : q1 ≠ p) (n9 : q2 ≠ p) {F : Nat → Int32} {ou inn nx fi : Value} {c1 x1 f1 s1 c2 x2 f2 s2 c3 x3 f3 s3 c4 x4 f4 s4 u1 u3 : Int32} {u2 u4 : Bool} {v w h d it ne : Int32} (hC : C p = .inr (4, frv (frF i F) ou (adr p1) (adr p2) inn nx)) (hC1 : C p1 = .inr (8, trv c1 x1 f1 s1 u1)) (hC2 : C p2 = .inr (8, trv c3 x3 f3 s3 u3)) (hQ1 : C q1 = .inr (8, trv c2 x2 f2 s2 (bI u2))) (hQ2 : C q2 = .inr (8, trv c4 x4 f4 s4 (bI u4))) (hB : N b = some (.inr (1, bxv v w h d fi it ne))) (hz : isz1 v) (hfi : isr fi) : Ct l D (tyl ac) t_Fra_begin 0 0 [.ref (adr p), .ref b, .ref (adr q1), .ref (adr q2)] (pM T adr C N) (PQ none (pM T adr (va_up (va_up (va_up C p1 (.inr (8, trv c1 x2 f2 s2 (bI u2)))) p2 (.inr (8, trv c3 x4 f4 s4 (bI u4)))) p (.inr (4, frv (frF i (bgF v w h d x2 x4)) ou (adr p1) (adr p2) inn fi))) N)) := by
  refine Ct_of (by decide) (Nat.le_of_ble_eq_true rfl) ?_
  refine V_aload_n d_Fra_begin_0 rfl (isr_ref _) ?_
  refine VP_get h0 hp d_Fra_begin_1 f_Fra_14 (hC) rfl ?_
  refine V_aload_n d_Fra_begin_4 rfl (isr_ref _) ?_
  refine VP_cv1 h0 h1 d_Fra_begin_5 c_Fra_37 (Trk_become h0 h1 hq1 n1 hC1 hQ1 (bI_z _)) ⟨by decide, by decide⟩ hC1 rfl (Nat.le_of_ble_eq_true rfl) ?_
  refine V_aload_n d_Fra_begin_8 rfl (isr_ref _) ?_
  refine VP_get h0 hp d_Fra_begin_9 f_Fra_20 ((va_up_ne _ _ n3).trans hC) rfl ?_
  refine V_aload_n d_Fra_begin_12 rfl (isr_ref _) ?_
  refine VP_cv1 h0 h2 d_Fra_begin_13 c_Fra_37 (Trk_become h0 h2 hq2 n2 ((va_up_ne _ _ n4).trans hC2) ((va_up_ne _ _ n5).trans hQ2) (bI_z _)) ⟨by decide, by decide⟩ ((va_up_ne _ _ n4).trans hC2) rfl (Nat.le_of_ble_eq_true rfl) ?_
  have hCp := (va_up_ne (va_up C p1 (.inr (8, trv c1 x2 f2 s2 (bI u2)))) (.inr (8, trv c3 x4 f4 s4 (bI u4))) n6).trans ((va_up_ne _ _ n3).trans hC)
  have hQ1p : va_up (va_up C p1 (.inr (8, trv c1 x2 f2 s2 (bI u2)))) p2 (.inr (8, trv c3 x4 f4 s4 (bI u4))) q1 = .inr (8, trv c2 x2 f2 s2 (bI u2)) := (va_up_ne _ _ n7).trans ((va_up_ne _ _ n1).trans hQ1)
  have hQ2p : va_up (va_up C p1 (.inr (8, trv c1 x2 f2 s2 (bI u2)))) p2 (.inr (8, trv c3 x4 f4 s4 (bI u4))) q2 = .inr (8, trv c4 x4 f4 s4 (bI u4)) := (va_up_ne _ _ n2).trans ((va_up_ne _ _ n5).trans hQ2)
  revert hCp hQ1p hQ2p
  generalize va_up (va_up C p1 (.inr (8, trv c1 x2 f2 s2 (bI u2)))) p2 (.inr (8, trv c3 x4 f4 s4 (bI u4))) = C2
  intro hCp hQ1p hQ2p
  refine V_aload_n d_Fra_begin_16 rfl (isr_ref _) ?_
  refine V_aload_n d_Fra_begin_17 rfl (isr_ref _) ?_
  refine VN_get h0 d_Fra_begin_18 f_Fra_41 (hB) rfl ?_
  refine VP_put h0 hp d_Fra_begin_21 f_Fra_47 (hCp) (hz.1) (hz.2) (Nat.le_of_ble_eq_true rfl) ?_
  refine V_aload_n d_Fra_begin_24 rfl (isr_ref _) ?_
  refine V_aload_n d_Fra_begin_25 rfl (isr_ref _) ?_
  refine VN_get h0 d_Fra_begin_26 f_Fra_48 (hB) rfl ?_
  refine VP_put h0 hp d_Fra_begin_29 f_Fra_51 (va_up_self _ _ _) (rfl) (rfl) (Nat.le_of_ble_eq_true rfl) ?_
  rw [upuf]
  refine V_aload_n d_Fra_begin_32 rfl (isr_ref _) ?_
  refine V_aload_n d_Fra_begin_33 rfl (isr_ref _) ?_
  refine VN_get h0 d_Fra_begin_34 f_Fra_52 (hB) rfl ?_
  refine VP_put h0 hp d_Fra_begin_37 f_Fra_55 (va_up_self _ _ _) (rfl) (rfl) (Nat.le_of_ble_eq_true rfl) ?_
  rw [upuf]
  refine V_aload_n d_Fra_begin_40 rfl (isr_ref _) ?_
  refine V_aload_n d_Fra_begin_41 rfl (isr_ref _) ?_
  refine VN_get h0 d_Fra_begin_42 f_Fra_56 (hB) rfl ?_
  refine VP_put h0 hp d_Fra_begin_45 f_Fra_59 (va_up_self _ _ _) (rfl) (rfl) (Nat.le_of_ble_eq_true rfl) ?_
  rw [upuf]
  refine V_aload_n d_Fra_begin_48 rfl (isr_ref _) ?_
  refine V_aload_n d_Fra_begin_49 rfl (isr_ref _) ?_
  refine VP_getN h0 hq1 d_Fra_begin_50 f_Fra_60 ((va_up_ne _ _ n8).trans hQ1p) rfl ?_
  refine VP_put h0 hp d_Fra_begin_53 f_Fra_63 (va_up_self _ _ _) (rfl) (rfl) (Nat.le_of_ble_eq_true rfl) ?_
  rw [upuf]
  refine V_aload_n d_Fra_begin_56 rfl (isr_ref _) ?_
  refine V_aload_n d_Fra_begin_57 rfl (isr_ref _) ?_
  refine VP_getN h0 hq2 d_Fra_begin_58 f_Fra_60 ((va_up_ne _ _ n9).trans hQ2p) rfl ?_
  refine VP_put h0 hp d_Fra_begin_61 f_Fra_66 (va_up_self _ _ _) (rfl) (rfl) (Nat.le_of_ble_eq_true rfl) ?_
  rw [upuf]
  refine V_aload_n d_Fra_begin_64 rfl (isr_ref _) ?_
  refine V_aload_n d_Fra_begin_65 rfl (isr_ref _) ?_
  refine VP_get h0 hp d_Fra_begin_66 f_Fra_47 (va_up_self _ _ _) rfl ?_
  refine V_if_eq 84 d_Fra_begin_69 (by decide) (fun h69 => ?_) (fun h69 => ?_)
  · refine V_aload_n d_Fra_begin_84 rfl (isr_ref _) ?_
    refine VP_get h0 hp d_Fra_begin_85 f_Fra_63 (va_up_self _ _ _) rfl ?_
    refine VP_put h0 hp d_Fra_begin_88 f_Fra_69 (va_up_self _ _ _) (rfl) (rfl) (Nat.le_of_ble_eq_true rfl) ?_
    rw [upuf]
    refine V_aload_n d_Fra_begin_91 rfl (isr_ref _) ?_
    refine V_aload_n d_Fra_begin_92 rfl (isr_ref _) ?_
    refine VN_get h0 d_Fra_begin_93 f_Fra_72 (hB) rfl ?_
    refine VP_put h0 hp d_Fra_begin_96 f_Fra_76 (va_up_self _ _ _) (isr_nar hfi) (isr_fit hfi) (Nat.le_of_ble_eq_true rfl) ?_
    rw [upuf]
    exact V_return d_Fra_begin_99 rfl ⟨rfl, by unfold bgF; rw [if_pos h69]; rfl⟩
  · refine V_aload_n d_Fra_begin_72 rfl (isr_ref _) ?_
    refine VP_get h0 hp d_Fra_begin_73 f_Fra_66 (va_up_self _ _ _) rfl ?_
    refine V_aload_n d_Fra_begin_76 rfl (isr_ref _) ?_
    refine VP_get h0 hp d_Fra_begin_77 f_Fra_55 (va_up_self _ _ _) rfl ?_
    refine V_isub d_Fra_begin_80 ?_
    refine V_goto 88 d_Fra_begin_81 (by decide) ?_
    refine VP_put h0 hp d_Fra_begin_88 f_Fra_69 (va_up_self _ _ _) (rfl) (rfl) (Nat.le_of_ble_eq_true rfl) ?_
    rw [upuf]
    refine V_aload_n d_Fra_begin_91 rfl (isr_ref _) ?_
    refine V_aload_n d_Fra_begin_92 rfl (isr_ref _) ?_
    refine VN_get h0 d_Fra_begin_93 f_Fra_72 (hB) rfl ?_
    refine VP_put h0 hp d_Fra_begin_96 f_Fra_76 (va_up_self _ _ _) (isr_nar hfi) (isr_fit hfi) (Nat.le_of_ble_eq_true rfl) ?_
    rw [upuf]
    exact V_return d_Fra_begin_99 rfl ⟨rfl, by unfold bgF; rw [if_neg h69]; rfl⟩
