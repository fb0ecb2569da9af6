/-! OpenList.join and toBox -/
def jnM (M : MP) (lo : Option Nat) (b : Nat) (Ic : Nat → Int32) (bc : Value) : MP := match lo with
  | none => M
  | some c => mu M c (.inr (5, itv Ic bc (.ref b)))
def jfi (lo : Option Nat) (fi : Value) (b : Nat) : Value := match lo with
  | none => .ref b
  | some _ => fi
def jit (bo : Option Nat) (it bi : Int32) : Int32 := match bo with
  | none => it + 1
  | some _ => it + 1 + (bi - 1)
def jne (bo : Option Nat) (ne bn : Int32) : Int32 := match bo with
  | none => ne
  | some _ => if ne < bn then bn else ne
def olm (v : Int32) (I : Nat → Int32) (t : T3) : T3 := if v = 0 then olmA I t else olmD I t
set_option maxRecDepth 100000 in
set_option maxHeartbeats 4000000 in
theorem OpL_join {l : Launch} {D : va_G} {ac : Nat → ClassId} {M : MP} {a b : Nat} {lo bo : Option Nat} {v le it ne bi bn : Int32} {ou fi nx bc : Value} {t : T3} {I Ic : Nat → Int32} (ha : M a = some (.inr (6, olv v ou le fi (va_rf lo) it ne t))) (hb : M b = some (.inr (5, itv I (va_rf bo) nx))) (hlo : ∀ c, lo = some c → ∃ nc, M c = some (.inr (5, itv Ic bc nc)) ∧ c ≠ b) (hbo : ∀ q, bo = some q → ∃ bv bw bh bd bf, M q = some (.inr (1, bxv bv bw bh bd bf bi bn))) : Ct l D (tyl ac) t_OpL_join 0 0 [.ref a, .ref b] M (PQ none (mu (jnM M lo b Ic bc) a (.inr (6, olv v ou le (jfi lo fi b) (.ref b) (jit bo it bi) (jne bo ne bn) (olm v I t))))) := by
  cases lo with
  | none =>
    cases bo with
    | none =>
      refine Ct_of (by decide) (Nat.le_of_ble_eq_true rfl) ?_
      have hab : a ≠ b := fun z => by rw [z, hb] at ha; cases ha
      refine V_aload_n d_OpL_join_0 rfl (isr_ref _) ?_
      refine V_getf d_OpL_join_1 f_OpL_23 (ha) rfl ?_
      refine V_ifnonnull 15 (isr_null) d_OpL_join_4 (by decide) (fun a4 h4 => ?_) (fun h4 => ?_)
      · cases h4
      · refine V_aload_n d_OpL_join_7 rfl (isr_ref _) ?_
        refine V_aload_n d_OpL_join_8 rfl (isr_ref _) ?_
        refine V_putf d_OpL_join_9 f_OpL_27 (ha) (rfl) (rfl) (Nat.le_of_ble_eq_true rfl) ?_
        refine V_goto 23 d_OpL_join_12 (by decide) ?_
        refine V_aload_n d_OpL_join_23 rfl (isr_ref _) ?_
        refine V_aload_n d_OpL_join_24 rfl (isr_ref _) ?_
        refine V_putf d_OpL_join_25 f_OpL_23 (mu_self _ _ _) (rfl) (rfl) (Nat.le_of_ble_eq_true rfl) ?_
        rw [mu_mu]
        refine V_aload_n d_OpL_join_28 rfl (isr_ref _) ?_
        refine V_dup d_OpL_join_29 rfl ?_
        refine V_getf d_OpL_join_30 f_OpL_35 (mu_self _ _ _) rfl ?_
        refine V_iconst (v := 1) d_OpL_join_33 (by decide) ?_
        refine V_iadd d_OpL_join_34 ?_
        refine V_putf d_OpL_join_35 f_OpL_35 (mu_self _ _ _) (rfl) (rfl) (Nat.le_of_ble_eq_true rfl) ?_
        rw [mu_mu]
        refine V_aload_n d_OpL_join_38 rfl (isr_ref _) ?_
        refine V_getf d_OpL_join_39 f_OpL_38 ((mu_ne _ _ hab.symm).trans (hb)) rfl ?_
        refine V_ifnull 81 (isr_null) d_OpL_join_42 (by decide) (fun h42 => ?_) (fun a42 h42 => ?_)
        · refine V_aload_n d_OpL_join_81 rfl (isr_ref _) ?_
          refine V_getf d_OpL_join_82 f_OpL_9 (mu_self _ _ _) rfl ?_
          refine V_if_eq 96 d_OpL_join_85 (by decide) (fun h85 => ?_) (fun h85 => ?_)
          · refine V_aload_n d_OpL_join_96 rfl (isr_ref _) ?_
            refine V_aload_n d_OpL_join_97 rfl (isr_ref _) ?_
            refine V_callV (As := [.ref b]) (rest := []) (T := T_OpL) (N := 10) (mu_self _ _ _) rfl d_OpL_join_98 c_OpL_59 ⟨by decide, by decide⟩ rfl rfl (Nat.le_of_ble_eq_true rfl) rfl rfl (OpL_measureAcross hab.symm (mu_self _ _ _) ((mu_ne _ _ hab.symm).trans (hb))) (fun x M1 hq9 => ?_)
            obtain ⟨rfl, rfl⟩ := hq9
            rw [mu_mu]
            exact V_return d_OpL_join_101 rfl ⟨rfl, by rw [olm, if_pos h85]; rfl⟩
          · refine V_aload_n d_OpL_join_88 rfl (isr_ref _) ?_
            refine V_aload_n d_OpL_join_89 rfl (isr_ref _) ?_
            refine V_callV (As := [.ref b]) (rest := []) (T := T_OpL) (N := 10) (mu_self _ _ _) rfl d_OpL_join_90 c_OpL_55 ⟨by decide, by decide⟩ rfl rfl (Nat.le_of_ble_eq_true rfl) rfl rfl (OpL_measureDown hab.symm (mu_self _ _ _) ((mu_ne _ _ hab.symm).trans (hb))) (fun x M1 hq9 => ?_)
            obtain ⟨rfl, rfl⟩ := hq9
            rw [mu_mu]
            refine V_goto 101 d_OpL_join_93 (by decide) ?_
            exact V_return d_OpL_join_101 rfl ⟨rfl, by rw [olm, if_neg h85]; rfl⟩
        · cases h42
    | some q =>
      refine Ct_of (by decide) (Nat.le_of_ble_eq_true rfl) ?_
      obtain ⟨bv, bw, bh, bd, bf, hq⟩ := hbo q rfl
      have hab : a ≠ b := fun z => by rw [z, hb] at ha; cases ha
      have hqa : q ≠ a := fun z => by rw [z, ha] at hq; cases hq
      refine V_aload_n d_OpL_join_0 rfl (isr_ref _) ?_
      refine V_getf d_OpL_join_1 f_OpL_23 (ha) rfl ?_
      refine V_ifnonnull 15 (isr_null) d_OpL_join_4 (by decide) (fun a4 h4 => ?_) (fun h4 => ?_)
      · cases h4
      · refine V_aload_n d_OpL_join_7 rfl (isr_ref _) ?_
        refine V_aload_n d_OpL_join_8 rfl (isr_ref _) ?_
        refine V_putf d_OpL_join_9 f_OpL_27 (ha) (rfl) (rfl) (Nat.le_of_ble_eq_true rfl) ?_
        refine V_goto 23 d_OpL_join_12 (by decide) ?_
        refine V_aload_n d_OpL_join_23 rfl (isr_ref _) ?_
        refine V_aload_n d_OpL_join_24 rfl (isr_ref _) ?_
        refine V_putf d_OpL_join_25 f_OpL_23 (mu_self _ _ _) (rfl) (rfl) (Nat.le_of_ble_eq_true rfl) ?_
        rw [mu_mu]
        refine V_aload_n d_OpL_join_28 rfl (isr_ref _) ?_
        refine V_dup d_OpL_join_29 rfl ?_
        refine V_getf d_OpL_join_30 f_OpL_35 (mu_self _ _ _) rfl ?_
        refine V_iconst (v := 1) d_OpL_join_33 (by decide) ?_
        refine V_iadd d_OpL_join_34 ?_
        refine V_putf d_OpL_join_35 f_OpL_35 (mu_self _ _ _) (rfl) (rfl) (Nat.le_of_ble_eq_true rfl) ?_
        rw [mu_mu]
        refine V_aload_n d_OpL_join_38 rfl (isr_ref _) ?_
        refine V_getf d_OpL_join_39 f_OpL_38 ((mu_ne _ _ hab.symm).trans (hb)) rfl ?_
        refine V_ifnull 81 (isr_ref _) d_OpL_join_42 (by decide) (fun h42 => ?_) (fun a42 h42 => ?_)
        · cases h42
        · refine V_aload_n d_OpL_join_45 rfl (isr_ref _) ?_
          refine V_dup d_OpL_join_46 rfl ?_
          refine V_getf d_OpL_join_47 f_OpL_35 (mu_self _ _ _) rfl ?_
          refine V_aload_n d_OpL_join_50 rfl (isr_ref _) ?_
          refine V_getf d_OpL_join_51 f_OpL_38 ((mu_ne _ _ hab.symm).trans (hb)) rfl ?_
          refine V_getf d_OpL_join_54 f_OpL_42 ((mu_ne _ _ hqa).trans (hq)) rfl ?_
          refine V_iconst (v := 1) d_OpL_join_57 (by decide) ?_
          refine V_isub d_OpL_join_58 ?_
          refine V_iadd d_OpL_join_59 ?_
          refine V_putf d_OpL_join_60 f_OpL_35 (mu_self _ _ _) (rfl) (rfl) (Nat.le_of_ble_eq_true rfl) ?_
          rw [mu_mu]
          refine V_aload_n d_OpL_join_63 rfl (isr_ref _) ?_
          refine V_aload_n d_OpL_join_64 rfl (isr_ref _) ?_
          refine V_getf d_OpL_join_65 f_OpL_45 (mu_self _ _ _) rfl ?_
          refine V_aload_n d_OpL_join_68 rfl (isr_ref _) ?_
          refine V_getf d_OpL_join_69 f_OpL_38 ((mu_ne _ _ hab.symm).trans (hb)) rfl ?_
          refine V_getf d_OpL_join_72 f_OpL_48 ((mu_ne _ _ hqa).trans (hq)) rfl ?_
          refine V_maxi d_OpL_join_75 mx_OpL_49 mxi1 mx0 mxi2 (by decide) (Nat.le_of_ble_eq_true rfl) ?_
          refine V_putf d_OpL_join_78 f_OpL_45 (mu_self _ _ _) (rfl) (rfl) (Nat.le_of_ble_eq_true rfl) ?_
          rw [mu_mu]
          refine V_aload_n d_OpL_join_81 rfl (isr_ref _) ?_
          refine V_getf d_OpL_join_82 f_OpL_9 (mu_self _ _ _) rfl ?_
          refine V_if_eq 96 d_OpL_join_85 (by decide) (fun h85 => ?_) (fun h85 => ?_)
          · refine V_aload_n d_OpL_join_96 rfl (isr_ref _) ?_
            refine V_aload_n d_OpL_join_97 rfl (isr_ref _) ?_
            refine V_callV (As := [.ref b]) (rest := []) (T := T_OpL) (N := 10) (mu_self _ _ _) rfl d_OpL_join_98 c_OpL_59 ⟨by decide, by decide⟩ rfl rfl (Nat.le_of_ble_eq_true rfl) rfl rfl (OpL_measureAcross hab.symm (mu_self _ _ _) ((mu_ne _ _ hab.symm).trans (hb))) (fun x M1 hq9 => ?_)
            obtain ⟨rfl, rfl⟩ := hq9
            rw [mu_mu]
            exact V_return d_OpL_join_101 rfl ⟨rfl, by rw [olm, if_pos h85]; rfl⟩
          · refine V_aload_n d_OpL_join_88 rfl (isr_ref _) ?_
            refine V_aload_n d_OpL_join_89 rfl (isr_ref _) ?_
            refine V_callV (As := [.ref b]) (rest := []) (T := T_OpL) (N := 10) (mu_self _ _ _) rfl d_OpL_join_90 c_OpL_55 ⟨by decide, by decide⟩ rfl rfl (Nat.le_of_ble_eq_true rfl) rfl rfl (OpL_measureDown hab.symm (mu_self _ _ _) ((mu_ne _ _ hab.symm).trans (hb))) (fun x M1 hq9 => ?_)
            obtain ⟨rfl, rfl⟩ := hq9
            rw [mu_mu]
            refine V_goto 101 d_OpL_join_93 (by decide) ?_
            exact V_return d_OpL_join_101 rfl ⟨rfl, by rw [olm, if_neg h85]; rfl⟩
  | some c =>
    cases bo with
    | none =>
      refine Ct_of (by decide) (Nat.le_of_ble_eq_true rfl) ?_
      obtain ⟨nc, hc, hcb⟩ := hlo c rfl
      have hab : a ≠ b := fun z => by rw [z, hb] at ha; cases ha
      have hca : c ≠ a := fun z => by rw [z, ha] at hc; cases hc
      refine V_aload_n d_OpL_join_0 rfl (isr_ref _) ?_
      refine V_getf d_OpL_join_1 f_OpL_23 (ha) rfl ?_
      refine V_ifnonnull 15 (isr_ref _) d_OpL_join_4 (by decide) (fun a4 h4 => ?_) (fun h4 => ?_)
      · refine V_aload_n d_OpL_join_15 rfl (isr_ref _) ?_
        refine V_getf d_OpL_join_16 f_OpL_23 (ha) rfl ?_
        refine V_aload_n d_OpL_join_19 rfl (isr_ref _) ?_
        refine V_putf d_OpL_join_20 f_OpL_30 (hc) (rfl) (rfl) (Nat.le_of_ble_eq_true rfl) ?_
        refine V_aload_n d_OpL_join_23 rfl (isr_ref _) ?_
        refine V_aload_n d_OpL_join_24 rfl (isr_ref _) ?_
        refine V_putf d_OpL_join_25 f_OpL_23 ((mu_ne _ _ hca.symm).trans ha) (rfl) (rfl) (Nat.le_of_ble_eq_true rfl) ?_
        refine V_aload_n d_OpL_join_28 rfl (isr_ref _) ?_
        refine V_dup d_OpL_join_29 rfl ?_
        refine V_getf d_OpL_join_30 f_OpL_35 (mu_self _ _ _) rfl ?_
        refine V_iconst (v := 1) d_OpL_join_33 (by decide) ?_
        refine V_iadd d_OpL_join_34 ?_
        refine V_putf d_OpL_join_35 f_OpL_35 (mu_self _ _ _) (rfl) (rfl) (Nat.le_of_ble_eq_true rfl) ?_
        rw [mu_mu]
        refine V_aload_n d_OpL_join_38 rfl (isr_ref _) ?_
        refine V_getf d_OpL_join_39 f_OpL_38 ((mu_ne _ _ hab.symm).trans ((mu_ne _ _ hcb.symm).trans hb)) rfl ?_
        refine V_ifnull 81 (isr_null) d_OpL_join_42 (by decide) (fun h42 => ?_) (fun a42 h42 => ?_)
        · refine V_aload_n d_OpL_join_81 rfl (isr_ref _) ?_
          refine V_getf d_OpL_join_82 f_OpL_9 (mu_self _ _ _) rfl ?_
          refine V_if_eq 96 d_OpL_join_85 (by decide) (fun h85 => ?_) (fun h85 => ?_)
          · refine V_aload_n d_OpL_join_96 rfl (isr_ref _) ?_
            refine V_aload_n d_OpL_join_97 rfl (isr_ref _) ?_
            refine V_callV (As := [.ref b]) (rest := []) (T := T_OpL) (N := 10) (mu_self _ _ _) rfl d_OpL_join_98 c_OpL_59 ⟨by decide, by decide⟩ rfl rfl (Nat.le_of_ble_eq_true rfl) rfl rfl (OpL_measureAcross hab.symm (mu_self _ _ _) ((mu_ne _ _ hab.symm).trans ((mu_ne _ _ hcb.symm).trans hb))) (fun x M1 hq9 => ?_)
            obtain ⟨rfl, rfl⟩ := hq9
            rw [mu_mu]
            exact V_return d_OpL_join_101 rfl ⟨rfl, by rw [olm, if_pos h85]; rfl⟩
          · refine V_aload_n d_OpL_join_88 rfl (isr_ref _) ?_
            refine V_aload_n d_OpL_join_89 rfl (isr_ref _) ?_
            refine V_callV (As := [.ref b]) (rest := []) (T := T_OpL) (N := 10) (mu_self _ _ _) rfl d_OpL_join_90 c_OpL_55 ⟨by decide, by decide⟩ rfl rfl (Nat.le_of_ble_eq_true rfl) rfl rfl (OpL_measureDown hab.symm (mu_self _ _ _) ((mu_ne _ _ hab.symm).trans ((mu_ne _ _ hcb.symm).trans hb))) (fun x M1 hq9 => ?_)
            obtain ⟨rfl, rfl⟩ := hq9
            rw [mu_mu]
            refine V_goto 101 d_OpL_join_93 (by decide) ?_
            exact V_return d_OpL_join_101 rfl ⟨rfl, by rw [olm, if_neg h85]; rfl⟩
        · cases h42
      · cases h4
    | some q =>
      refine Ct_of (by decide) (Nat.le_of_ble_eq_true rfl) ?_
      obtain ⟨nc, hc, hcb⟩ := hlo c rfl
      obtain ⟨bv, bw, bh, bd, bf, hq⟩ := hbo q rfl
      have hab : a ≠ b := fun z => by rw [z, hb] at ha; cases ha
      have hca : c ≠ a := fun z => by rw [z, ha] at hc; cases hc
      have hqa : q ≠ a := fun z => by rw [z, ha] at hq; cases hq
      have hqc : q ≠ c := fun z => by rw [z, hc] at hq; cases hq
      refine V_aload_n d_OpL_join_0 rfl (isr_ref _) ?_
      refine V_getf d_OpL_join_1 f_OpL_23 (ha) rfl ?_
      refine V_ifnonnull 15 (isr_ref _) d_OpL_join_4 (by decide) (fun a4 h4 => ?_) (fun h4 => ?_)
      · refine V_aload_n d_OpL_join_15 rfl (isr_ref _) ?_
        refine V_getf d_OpL_join_16 f_OpL_23 (ha) rfl ?_
        refine V_aload_n d_OpL_join_19 rfl (isr_ref _) ?_
        refine V_putf d_OpL_join_20 f_OpL_30 (hc) (rfl) (rfl) (Nat.le_of_ble_eq_true rfl) ?_
        refine V_aload_n d_OpL_join_23 rfl (isr_ref _) ?_
        refine V_aload_n d_OpL_join_24 rfl (isr_ref _) ?_
        refine V_putf d_OpL_join_25 f_OpL_23 ((mu_ne _ _ hca.symm).trans ha) (rfl) (rfl) (Nat.le_of_ble_eq_true rfl) ?_
        refine V_aload_n d_OpL_join_28 rfl (isr_ref _) ?_
        refine V_dup d_OpL_join_29 rfl ?_
        refine V_getf d_OpL_join_30 f_OpL_35 (mu_self _ _ _) rfl ?_
        refine V_iconst (v := 1) d_OpL_join_33 (by decide) ?_
        refine V_iadd d_OpL_join_34 ?_
        refine V_putf d_OpL_join_35 f_OpL_35 (mu_self _ _ _) (rfl) (rfl) (Nat.le_of_ble_eq_true rfl) ?_
        rw [mu_mu]
        refine V_aload_n d_OpL_join_38 rfl (isr_ref _) ?_
        refine V_getf d_OpL_join_39 f_OpL_38 ((mu_ne _ _ hab.symm).trans ((mu_ne _ _ hcb.symm).trans hb)) rfl ?_
        refine V_ifnull 81 (isr_ref _) d_OpL_join_42 (by decide) (fun h42 => ?_) (fun a42 h42 => ?_)
        · cases h42
        · refine V_aload_n d_OpL_join_45 rfl (isr_ref _) ?_
          refine V_dup d_OpL_join_46 rfl ?_
          refine V_getf d_OpL_join_47 f_OpL_35 (mu_self _ _ _) rfl ?_
          refine V_aload_n d_OpL_join_50 rfl (isr_ref _) ?_
          refine V_getf d_OpL_join_51 f_OpL_38 ((mu_ne _ _ hab.symm).trans ((mu_ne _ _ hcb.symm).trans hb)) rfl ?_
          refine V_getf d_OpL_join_54 f_OpL_42 ((mu_ne _ _ hqa).trans ((mu_ne _ _ hqc).trans hq)) rfl ?_
          refine V_iconst (v := 1) d_OpL_join_57 (by decide) ?_
          refine V_isub d_OpL_join_58 ?_
          refine V_iadd d_OpL_join_59 ?_
          refine V_putf d_OpL_join_60 f_OpL_35 (mu_self _ _ _) (rfl) (rfl) (Nat.le_of_ble_eq_true rfl) ?_
          rw [mu_mu]
          refine V_aload_n d_OpL_join_63 rfl (isr_ref _) ?_
          refine V_aload_n d_OpL_join_64 rfl (isr_ref _) ?_
          refine V_getf d_OpL_join_65 f_OpL_45 (mu_self _ _ _) rfl ?_
          refine V_aload_n d_OpL_join_68 rfl (isr_ref _) ?_
          refine V_getf d_OpL_join_69 f_OpL_38 ((mu_ne _ _ hab.symm).trans ((mu_ne _ _ hcb.symm).trans hb)) rfl ?_
          refine V_getf d_OpL_join_72 f_OpL_48 ((mu_ne _ _ hqa).trans ((mu_ne _ _ hqc).trans hq)) rfl ?_
          refine V_maxi d_OpL_join_75 mx_OpL_49 mxi1 mx0 mxi2 (by decide) (Nat.le_of_ble_eq_true rfl) ?_
          refine V_putf d_OpL_join_78 f_OpL_45 (mu_self _ _ _) (rfl) (rfl) (Nat.le_of_ble_eq_true rfl) ?_
          rw [mu_mu]
          refine V_aload_n d_OpL_join_81 rfl (isr_ref _) ?_
          refine V_getf d_OpL_join_82 f_OpL_9 (mu_self _ _ _) rfl ?_
          refine V_if_eq 96 d_OpL_join_85 (by decide) (fun h85 => ?_) (fun h85 => ?_)
          · refine V_aload_n d_OpL_join_96 rfl (isr_ref _) ?_
            refine V_aload_n d_OpL_join_97 rfl (isr_ref _) ?_
            refine V_callV (As := [.ref b]) (rest := []) (T := T_OpL) (N := 10) (mu_self _ _ _) rfl d_OpL_join_98 c_OpL_59 ⟨by decide, by decide⟩ rfl rfl (Nat.le_of_ble_eq_true rfl) rfl rfl (OpL_measureAcross hab.symm (mu_self _ _ _) ((mu_ne _ _ hab.symm).trans ((mu_ne _ _ hcb.symm).trans hb))) (fun x M1 hq9 => ?_)
            obtain ⟨rfl, rfl⟩ := hq9
            rw [mu_mu]
            exact V_return d_OpL_join_101 rfl ⟨rfl, by rw [olm, if_pos h85]; rfl⟩
          · refine V_aload_n d_OpL_join_88 rfl (isr_ref _) ?_
            refine V_aload_n d_OpL_join_89 rfl (isr_ref _) ?_
            refine V_callV (As := [.ref b]) (rest := []) (T := T_OpL) (N := 10) (mu_self _ _ _) rfl d_OpL_join_90 c_OpL_55 ⟨by decide, by decide⟩ rfl rfl (Nat.le_of_ble_eq_true rfl) rfl rfl (OpL_measureDown hab.symm (mu_self _ _ _) ((mu_ne _ _ hab.symm).trans ((mu_ne _ _ hcb.symm).trans hb))) (fun x M1 hq9 => ?_)
            obtain ⟨rfl, rfl⟩ := hq9
            rw [mu_mu]
            refine V_goto 101 d_OpL_join_93 (by decide) ?_
            exact V_return d_OpL_join_101 rfl ⟨rfl, by rw [olm, if_neg h85]; rfl⟩
      · cases h4
abbrev tbok (ne : Int32) (t : T3) : Prop := ¬ 100 ≤ ne ∧ ¬ asz t.1 t.2.1 t.2.2 = 0
def tbQ (M : MP) (v : Int32) (fi : Value) (it ne : Int32) (t : T3) : Option Value → MP → Prop := fun x M' => if tbok ne t then ∃ q, M q = none ∧ x = some (.ref q) ∧ M' = mu M q (.inr (1, bxv v t.1.toInt32 t.2.1.toInt32 t.2.2.toInt32 fi (it + 1) (ne + 1))) else x = some .null ∧ M' = M
set_option maxRecDepth 100000 in
set_option maxHeartbeats 4000000 in
theorem OpL_toBox {l : Launch} {D : va_G} {ac : Nat → ClassId} {M : MP} {a : Nat} {v le it ne : Int32} {ou fi la : Value} {t : T3} (hz : isz1 v) (hfi : isr fi) (ha : M a = some (.inr (6, olv v ou le fi la it ne t))) : Ct l D (tyl ac) t_OpL_toBox 1 7 [.ref a] M (tbQ M v fi it ne t) := by
  refine Ct_of (by decide) (Nat.le_of_ble_eq_true rfl) ?_
  refine V_aload_n d_OpL_toBox_0 rfl (isr_ref _) ?_
  refine V_getf d_OpL_toBox_1 f_OpL_45 (ha) rfl ?_
  refine V_bipush (v := 100) d_OpL_toBox_4 (by decide) ?_
  refine V_icmp_ge 27 d_OpL_toBox_6 (by decide) (fun h6 => ?_) (fun h6 => ?_)
  · refine V_null d_OpL_toBox_27 ?_
    exact V_areturn d_OpL_toBox_28 rfl (Or.inl ⟨_, rfl⟩) isr_null (by rw [tbQ, if_neg (fun z => z.1 h6)]; exact ⟨rfl, rfl⟩)
  · refine V_aload_n d_OpL_toBox_9 rfl (isr_ref _) ?_
    refine V_getf d_OpL_toBox_10 f_OpL_62 (ha) rfl ?_
    refine V_aload_n d_OpL_toBox_13 rfl (isr_ref _) ?_
    refine V_getf d_OpL_toBox_14 f_OpL_68 (ha) rfl ?_
    refine V_aload_n d_OpL_toBox_17 rfl (isr_ref _) ?_
    refine V_getf d_OpL_toBox_18 f_OpL_79 (ha) rfl ?_
    refine VS_ci3N d_OpL_toBox_21 c_OpL_87 (PF_areSizes _ _ _) ⟨by decide, by decide⟩ (Nat.le_of_ble_eq_true rfl) ?_
    refine V_if_ne 29 d_OpL_toBox_24 (by decide) (fun h24 => ?_) (fun h24 => ?_)
    · have hok : tbok ne t := ⟨h6, h24⟩
      refine V_new (k' := 0) (n' := 0) d_OpL_toBox_29 n_OpL_43 rfl rfl (fun q hq => ?_)
      have haq : a ≠ q := fun z => by rw [← z, ha] at hq; cases hq
      refine V_dup d_OpL_toBox_32 rfl ?_
      refine V_aload_n d_OpL_toBox_33 rfl (isr_ref _) ?_
      refine V_aload_n d_OpL_toBox_34 rfl (isr_ref _) ?_
      refine V_getf d_OpL_toBox_35 f_OpL_62 ((mu_ne _ _ haq).trans ha) rfl ?_
      refine V_l2i d_OpL_toBox_38 ?_
      refine V_aload_n d_OpL_toBox_39 rfl (isr_ref _) ?_
      refine V_getf d_OpL_toBox_40 f_OpL_68 ((mu_ne _ _ haq).trans ha) rfl ?_
      refine V_l2i d_OpL_toBox_43 ?_
      refine V_aload_n d_OpL_toBox_44 rfl (isr_ref _) ?_
      refine V_getf d_OpL_toBox_45 f_OpL_79 ((mu_ne _ _ haq).trans ha) rfl ?_
      refine V_l2i d_OpL_toBox_48 ?_
      refine V_callI (As := [.ref a, .int t.1.toInt32, .int t.2.1.toInt32, .int t.2.2.toInt32]) (rest := [.ref q]) (b := q) (k' := 0) (n' := 0) d_OpL_toBox_49 c_OpL_91 ⟨by decide, by decide⟩ rfl rfl (Nat.le_of_ble_eq_true rfl) rfl rfl (Box_init haq hz hfi (mu_self _ _ _) ((mu_ne _ _ haq).trans ha)) (fun x M1 hq9 => ?_)
      obtain ⟨rfl, rfl⟩ := hq9
      rw [mu_mu]
      exact V_areturn d_OpL_toBox_52 rfl (Or.inl ⟨_, rfl⟩) (isr_ref _) (by rw [tbQ, if_pos hok]; exact ⟨q, hq, rfl, rfl⟩)
    · refine V_null d_OpL_toBox_27 ?_
      exact V_areturn d_OpL_toBox_28 rfl (Or.inl ⟨_, rfl⟩) isr_null (by rw [tbQ, if_neg (fun z => h24 z.2)]; exact ⟨rfl, rfl⟩)
