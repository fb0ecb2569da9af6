/-! Item, Box, OpenList: constructors and the open list's methods, over any world -/
def itI (k w h d f c r s : Int32) : Nat → Int32 := fun j => match j with
  | 0 => k
  | 1 => w
  | 2 => h
  | 3 => d
  | 4 => f
  | 5 => c
  | 6 => r
  | _ => s
abbrev olv (v : Int32) (ou : Value) (le : Int32) (fi la : Value) (it ne : Int32) (t : T3) : List Value := [.int v, ou, .int le, fi, la, .int it, .int ne, .long t.1, .long t.2.1, .long t.2.2]
abbrev bxv (v w h d : Int32) (fi : Value) (it ne : Int32) : List Value := [.int v, .int w, .int h, .int d, fi, .int it, .int ne]
abbrev isz1 (v : Int32) : Prop := narrow .boolean (.int v) = .int v ∧ fits .boolean (.int v) = true
set_option maxRecDepth 100000 in
set_option maxHeartbeats 4000000 in
theorem Itm_init {l : Launch} {D : va_G} {ac : Nat → ClassId} {M : MP} {a : Nat} {k w h d : Int32} (ha : M a = some (.inr (5, itv (itI 0 0 0 0 0 0 0 0) .null .null))) : Ct l D (tyl ac) t_Itm_init 0 0 [.ref a, .int k, .int w, .int h, .int d] M (PQ none (mu M a (.inr (5, itv (itI k w h d 0 0 0 0) .null .null)))) := by
  refine Ct_of (by decide) (Nat.le_of_ble_eq_true rfl) ?_
  refine V_aload_n d_Itm_init_0 rfl (isr_ref _) ?_
  refine V_objInit d_Itm_init_1 oi_Itm oi1 oi2 (by decide) (Nat.le_of_ble_eq_true rfl) ?_
  refine V_aload_n d_Itm_init_4 rfl (isr_ref _) ?_
  refine V_iload_n d_Itm_init_5 rfl ?_
  refine V_putF d_Itm_init_6 f_Itm_7 rfl (ha) (rfl) (rfl) (Nat.le_of_ble_eq_true rfl) ?_
  refine V_aload_n d_Itm_init_9 rfl (isr_ref _) ?_
  refine V_iload_n d_Itm_init_10 rfl ?_
  refine V_putF d_Itm_init_11 f_Itm_13 rfl (mu_self _ _ _) (rfl) (rfl) (Nat.le_of_ble_eq_true rfl) ?_
  rw [mu_mu]
  refine V_aload_n d_Itm_init_14 rfl (isr_ref _) ?_
  refine V_iload_n d_Itm_init_15 rfl ?_
  refine V_putF d_Itm_init_16 f_Itm_16 rfl (mu_self _ _ _) (rfl) (rfl) (Nat.le_of_ble_eq_true rfl) ?_
  rw [mu_mu]
  refine V_aload_n d_Itm_init_19 rfl (isr_ref _) ?_
  refine V_iload d_Itm_init_20 rfl ?_
  refine V_putF d_Itm_init_22 f_Itm_19 rfl (mu_self _ _ _) (rfl) (rfl) (Nat.le_of_ble_eq_true rfl) ?_
  rw [mu_mu]
  exact V_return d_Itm_init_25 rfl ⟨rfl, rfl⟩
theorem isr_nar {v : Value} {s : String} (h : isr v) : narrow (.object s) v = v := by rcases h with rfl | ⟨x, rfl⟩ <;> rfl
theorem isr_fit {v : Value} {s : String} (h : isr v) : fits (.object s) v = true := by rcases h with rfl | ⟨x, rfl⟩ <;> rfl
def olev (o : Option Nat) (le : Int32) : Int32 := match o with
  | none => 1
  | some _ => le + 1
set_option maxRecDepth 100000 in
set_option maxHeartbeats 4000000 in
theorem OpL_init {l : Launch} {D : va_G} {ac : Nat → ClassId} {M : MP} {a : Nat} {v le : Int32} {o : Option Nat} (hz : isz1 v) (ha : M a = some (.inr (6, olv 0 .null 0 .null .null 0 0 (0, 0, 0)))) (hlev : ∀ b, o = some b → ∃ fs, M b = some (.inr (6, fs)) ∧ fs[2]? = some (.int le) ∧ b ≠ a) : Ct l D (tyl ac) t_OpL_init 0 0 [.ref a, .int v, va_rf o] M (PQ none (mu M a (.inr (6, olv v (va_rf o) (olev o le) .null .null 0 0 (0, 0, 0))))) := by
  cases o with
  | none =>
    refine Ct_of (by decide) (Nat.le_of_ble_eq_true rfl) ?_
    refine V_aload_n d_OpL_init_0 rfl (isr_ref _) ?_
    refine V_objInit d_OpL_init_1 oi_OpL oi1 oi2 (by decide) (Nat.le_of_ble_eq_true rfl) ?_
    refine V_aload_n d_OpL_init_4 rfl (isr_ref _) ?_
    refine V_iload_n d_OpL_init_5 rfl ?_
    refine V_putF d_OpL_init_6 f_OpL_9 rfl (ha) (hz.1) (hz.2) (Nat.le_of_ble_eq_true rfl) ?_
    refine V_aload_n d_OpL_init_9 rfl (isr_ref _) ?_
    refine V_aload_n d_OpL_init_10 rfl (isr_null) ?_
    refine V_putF d_OpL_init_11 f_OpL_15 rfl (mu_self _ _ _) (rfl) (rfl) (Nat.le_of_ble_eq_true rfl) ?_
    rw [mu_mu]
    refine V_aload_n d_OpL_init_14 rfl (isr_ref _) ?_
    refine V_aload_n d_OpL_init_15 rfl (isr_null) ?_
    refine V_ifnonnull 23 (isr_null) d_OpL_init_16 (by decide) (fun a16 h16 => ?_) (fun h16 => ?_)
    · cases h16
    · refine V_iconst (v := 1) d_OpL_init_19 (by decide) ?_
      refine V_goto 29 d_OpL_init_20 (by decide) ?_
      refine V_putF d_OpL_init_29 f_OpL_19 rfl (mu_self _ _ _) (rfl) (rfl) (Nat.le_of_ble_eq_true rfl) ?_
      rw [mu_mu]
      exact V_return d_OpL_init_32 rfl ⟨rfl, rfl⟩
  | some b =>
    refine Ct_of (by decide) (Nat.le_of_ble_eq_true rfl) ?_
    refine V_aload_n d_OpL_init_0 rfl (isr_ref _) ?_
    refine V_objInit d_OpL_init_1 oi_OpL oi1 oi2 (by decide) (Nat.le_of_ble_eq_true rfl) ?_
    refine V_aload_n d_OpL_init_4 rfl (isr_ref _) ?_
    refine V_iload_n d_OpL_init_5 rfl ?_
    refine V_putF d_OpL_init_6 f_OpL_9 rfl (ha) (hz.1) (hz.2) (Nat.le_of_ble_eq_true rfl) ?_
    refine V_aload_n d_OpL_init_9 rfl (isr_ref _) ?_
    refine V_aload_n d_OpL_init_10 rfl (isr_ref _) ?_
    refine V_putF d_OpL_init_11 f_OpL_15 rfl (mu_self _ _ _) (rfl) (rfl) (Nat.le_of_ble_eq_true rfl) ?_
    rw [mu_mu]
    refine V_aload_n d_OpL_init_14 rfl (isr_ref _) ?_
    refine V_aload_n d_OpL_init_15 rfl (isr_ref _) ?_
    refine V_ifnonnull 23 (isr_ref _) d_OpL_init_16 (by decide) (fun a16 h16 => ?_) (fun h16 => ?_)
    · obtain ⟨fs, hb, hlv, hne⟩ := hlev b rfl
      refine V_aload_n d_OpL_init_23 rfl (isr_ref _) ?_
      refine V_getf d_OpL_init_24 f_OpL_19 ((mu_ne _ _ hne).trans hb) hlv ?_
      refine V_iconst (v := 1) d_OpL_init_27 (by decide) ?_
      refine V_iadd d_OpL_init_28 ?_
      refine V_putF d_OpL_init_29 f_OpL_19 rfl (mu_self _ _ _) (rfl) (rfl) (Nat.le_of_ble_eq_true rfl) ?_
      rw [mu_mu]
      exact V_return d_OpL_init_32 rfl ⟨rfl, rfl⟩
    · cases h16
set_option maxRecDepth 100000 in
set_option maxHeartbeats 4000000 in
theorem Box_init {l : Launch} {D : va_G} {ac : Nat → ClassId} {M : MP} {a b : Nat} (hba : b ≠ a) {v w h d le it ne : Int32} {ou fi la : Value} {t : T3} (hz : isz1 v) (hfi : isr fi) (ha : M a = some (.inr (1, bxv 0 0 0 0 .null 0 0))) (hb : M b = some (.inr (6, olv v ou le fi la it ne t))) : Ct l D (tyl ac) t_Box_init 0 0 [.ref a, .ref b, .int w, .int h, .int d] M (PQ none (mu M a (.inr (1, bxv v w h d fi (it + 1) (ne + 1))))) := by
  refine Ct_of (by decide) (Nat.le_of_ble_eq_true rfl) ?_
  refine V_aload_n d_Box_init_0 rfl (isr_ref _) ?_
  refine V_objInit d_Box_init_1 oi_Box oi1 oi2 (by decide) (Nat.le_of_ble_eq_true rfl) ?_
  refine V_aload_n d_Box_init_4 rfl (isr_ref _) ?_
  refine V_aload_n d_Box_init_5 rfl (isr_ref _) ?_
  refine V_getf d_Box_init_6 f_Box_7 (hb) rfl ?_
  refine V_putF d_Box_init_9 f_Box_13 rfl (ha) (hz.1) (hz.2) (Nat.le_of_ble_eq_true rfl) ?_
  refine V_aload_n d_Box_init_12 rfl (isr_ref _) ?_
  refine V_iload_n d_Box_init_13 rfl ?_
  refine V_putF d_Box_init_14 f_Box_16 rfl (mu_self _ _ _) (rfl) (rfl) (Nat.le_of_ble_eq_true rfl) ?_
  rw [mu_mu]
  refine V_aload_n d_Box_init_17 rfl (isr_ref _) ?_
  refine V_iload_n d_Box_init_18 rfl ?_
  refine V_putF d_Box_init_19 f_Box_20 rfl (mu_self _ _ _) (rfl) (rfl) (Nat.le_of_ble_eq_true rfl) ?_
  rw [mu_mu]
  refine V_aload_n d_Box_init_22 rfl (isr_ref _) ?_
  refine V_iload d_Box_init_23 rfl ?_
  refine V_putF d_Box_init_25 f_Box_23 rfl (mu_self _ _ _) (rfl) (rfl) (Nat.le_of_ble_eq_true rfl) ?_
  rw [mu_mu]
  refine V_aload_n d_Box_init_28 rfl (isr_ref _) ?_
  refine V_aload_n d_Box_init_29 rfl (isr_ref _) ?_
  refine V_getfN d_Box_init_30 f_Box_26 ((mu_ne _ _ hba).trans hb) rfl ?_
  refine V_putF d_Box_init_33 f_Box_30 rfl (mu_self _ _ _) (isr_nar hfi) (isr_fit hfi) (Nat.le_of_ble_eq_true rfl) ?_
  rw [mu_mu]
  refine V_aload_n d_Box_init_36 rfl (isr_ref _) ?_
  refine V_aload_n d_Box_init_37 rfl (isr_ref _) ?_
  refine V_getfN d_Box_init_38 f_Box_31 ((mu_ne _ _ hba).trans hb) rfl ?_
  refine V_iconst (v := 1) d_Box_init_41 (by decide) ?_
  refine V_iadd d_Box_init_42 ?_
  refine V_putF d_Box_init_43 f_Box_34 rfl (mu_self _ _ _) (rfl) (rfl) (Nat.le_of_ble_eq_true rfl) ?_
  rw [mu_mu]
  refine V_aload_n d_Box_init_46 rfl (isr_ref _) ?_
  refine V_aload_n d_Box_init_47 rfl (isr_ref _) ?_
  refine V_getfN d_Box_init_48 f_Box_35 ((mu_ne _ _ hba).trans hb) rfl ?_
  refine V_iconst (v := 1) d_Box_init_51 (by decide) ?_
  refine V_iadd d_Box_init_52 ?_
  refine V_putF d_Box_init_53 f_Box_38 rfl (mu_self _ _ _) (rfl) (rfl) (Nat.le_of_ble_eq_true rfl) ?_
  rw [mu_mu]
  exact V_return d_Box_init_56 rfl ⟨rfl, rfl⟩
def maxl (x y : Int64) : Int64 := if y < x then x else y
def olmA (I : Nat → Int32) (t : T3) : T3 := (t.1 + (I 1).toInt64, maxl t.2.1 ((I 2).toInt64 - (I 7).toInt64), maxl t.2.2 ((I 3).toInt64 + (I 7).toInt64))
def olmD (I : Nat → Int32) (t : T3) : T3 := if I 0 = 2 then (t.1, t.2.1 + t.2.2 + (I 1).toInt64, 0) else (maxl t.1 ((I 1).toInt64 + (I 7).toInt64), t.2.1 + t.2.2 + (I 2).toInt64, (I 3).toInt64)
set_option maxRecDepth 100000 in
set_option maxHeartbeats 4000000 in
theorem OpL_measureAcross {l : Launch} {D : va_G} {ac : Nat → ClassId} {M : MP} {a b : Nat} (hba : b ≠ a) {v le it ne : Int32} {ou fi la : Value} {t : T3} {I : Nat → Int32} {bx nx : Value} (ha : M a = some (.inr (6, olv v ou le fi la it ne t))) (hb : M b = some (.inr (5, itv I bx nx))) : Ct l D (tyl ac) t_OpL_measureAcross 0 0 [.ref a, .ref b] M (PQ none (mu M a (.inr (6, olv v ou le fi la it ne (olmA I t))))) := by
  refine Ct_of (by decide) (Nat.le_of_ble_eq_true rfl) ?_
  refine V_aload_n d_OpL_measureAcross_0 rfl (isr_ref _) ?_
  refine V_dup d_OpL_measureAcross_1 rfl ?_
  refine V_getf d_OpL_measureAcross_2 f_OpL_62 (ha) rfl ?_
  refine V_aload_n d_OpL_measureAcross_5 rfl (isr_ref _) ?_
  refine V_getf d_OpL_measureAcross_6 f_OpL_66 (hb) rfl ?_
  refine V_i2l d_OpL_measureAcross_9 ?_
  refine V_ladd d_OpL_measureAcross_10 ?_
  refine V_putf d_OpL_measureAcross_11 f_OpL_62 (ha) (rfl) (rfl) (Nat.le_of_ble_eq_true rfl) ?_
  refine V_aload_n d_OpL_measureAcross_14 rfl (isr_ref _) ?_
  refine V_aload_n d_OpL_measureAcross_15 rfl (isr_ref _) ?_
  refine V_getf d_OpL_measureAcross_16 f_OpL_68 (mu_self _ _ _) rfl ?_
  refine V_aload_n d_OpL_measureAcross_19 rfl (isr_ref _) ?_
  refine V_getf d_OpL_measureAcross_20 f_OpL_71 ((mu_ne _ _ hba).trans hb) rfl ?_
  refine V_i2l d_OpL_measureAcross_23 ?_
  refine V_aload_n d_OpL_measureAcross_24 rfl (isr_ref _) ?_
  refine V_getf d_OpL_measureAcross_25 f_OpL_73 ((mu_ne _ _ hba).trans hb) rfl ?_
  refine V_i2l d_OpL_measureAcross_28 ?_
  refine V_lsub d_OpL_measureAcross_29 ?_
  refine V_maxl d_OpL_measureAcross_30 mx_OpL_76 mxl1 mx0 mxl2 (by decide) (Nat.le_of_ble_eq_true rfl) ?_
  refine V_putf d_OpL_measureAcross_33 f_OpL_68 (mu_self _ _ _) (rfl) (rfl) (Nat.le_of_ble_eq_true rfl) ?_
  rw [mu_mu]
  refine V_aload_n d_OpL_measureAcross_36 rfl (isr_ref _) ?_
  refine V_aload_n d_OpL_measureAcross_37 rfl (isr_ref _) ?_
  refine V_getf d_OpL_measureAcross_38 f_OpL_79 (mu_self _ _ _) rfl ?_
  refine V_aload_n d_OpL_measureAcross_41 rfl (isr_ref _) ?_
  refine V_getf d_OpL_measureAcross_42 f_OpL_82 ((mu_ne _ _ hba).trans hb) rfl ?_
  refine V_i2l d_OpL_measureAcross_45 ?_
  refine V_aload_n d_OpL_measureAcross_46 rfl (isr_ref _) ?_
  refine V_getf d_OpL_measureAcross_47 f_OpL_73 ((mu_ne _ _ hba).trans hb) rfl ?_
  refine V_i2l d_OpL_measureAcross_50 ?_
  refine V_ladd d_OpL_measureAcross_51 ?_
  refine V_maxl d_OpL_measureAcross_52 mx_OpL_76 mxl1 mx0 mxl2 (by decide) (Nat.le_of_ble_eq_true rfl) ?_
  refine V_putf d_OpL_measureAcross_55 f_OpL_79 (mu_self _ _ _) (rfl) (rfl) (Nat.le_of_ble_eq_true rfl) ?_
  rw [mu_mu]
  exact V_return d_OpL_measureAcross_58 rfl ⟨rfl, rfl⟩
set_option maxRecDepth 100000 in
set_option maxHeartbeats 4000000 in
theorem OpL_measureDown {l : Launch} {D : va_G} {ac : Nat → ClassId} {M : MP} {a b : Nat} (hba : b ≠ a) {v le it ne : Int32} {ou fi la : Value} {t : T3} {I : Nat → Int32} {bx nx : Value} (ha : M a = some (.inr (6, olv v ou le fi la it ne t))) (hb : M b = some (.inr (5, itv I bx nx))) : Ct l D (tyl ac) t_OpL_measureDown 0 0 [.ref a, .ref b] M (PQ none (mu M a (.inr (6, olv v ou le fi la it ne (olmD I t))))) := by
  refine Ct_of (by decide) (Nat.le_of_ble_eq_true rfl) ?_
  refine V_aload_n d_OpL_measureDown_0 rfl (isr_ref _) ?_
  refine V_dup d_OpL_measureDown_1 rfl ?_
  refine V_getf d_OpL_measureDown_2 f_OpL_68 (ha) rfl ?_
  refine V_aload_n d_OpL_measureDown_5 rfl (isr_ref _) ?_
  refine V_getf d_OpL_measureDown_6 f_OpL_79 (ha) rfl ?_
  refine V_ladd d_OpL_measureDown_9 ?_
  refine V_putf d_OpL_measureDown_10 f_OpL_68 (ha) (rfl) (rfl) (Nat.le_of_ble_eq_true rfl) ?_
  refine V_aload_n d_OpL_measureDown_13 rfl (isr_ref _) ?_
  refine V_getf d_OpL_measureDown_14 f_OpL_84 ((mu_ne _ _ hba).trans hb) rfl ?_
  refine V_iconst (v := 2) d_OpL_measureDown_17 (by decide) ?_
  refine V_icmp_ne 43 d_OpL_measureDown_18 (by decide) (fun h18 => ?_) (fun h18 => ?_)
  · refine V_aload_n d_OpL_measureDown_43 rfl (isr_ref _) ?_
    refine V_dup d_OpL_measureDown_44 rfl ?_
    refine V_getf d_OpL_measureDown_45 f_OpL_68 (mu_self _ _ _) rfl ?_
    refine V_aload_n d_OpL_measureDown_48 rfl (isr_ref _) ?_
    refine V_getf d_OpL_measureDown_49 f_OpL_71 ((mu_ne _ _ hba).trans hb) rfl ?_
    refine V_i2l d_OpL_measureDown_52 ?_
    refine V_ladd d_OpL_measureDown_53 ?_
    refine V_putf d_OpL_measureDown_54 f_OpL_68 (mu_self _ _ _) (rfl) (rfl) (Nat.le_of_ble_eq_true rfl) ?_
    rw [mu_mu]
    refine V_aload_n d_OpL_measureDown_57 rfl (isr_ref _) ?_
    refine V_aload_n d_OpL_measureDown_58 rfl (isr_ref _) ?_
    refine V_getf d_OpL_measureDown_59 f_OpL_82 ((mu_ne _ _ hba).trans hb) rfl ?_
    refine V_i2l d_OpL_measureDown_62 ?_
    refine V_putf d_OpL_measureDown_63 f_OpL_79 (mu_self _ _ _) (rfl) (rfl) (Nat.le_of_ble_eq_true rfl) ?_
    rw [mu_mu]
    refine V_aload_n d_OpL_measureDown_66 rfl (isr_ref _) ?_
    refine V_aload_n d_OpL_measureDown_67 rfl (isr_ref _) ?_
    refine V_getf d_OpL_measureDown_68 f_OpL_62 (mu_self _ _ _) rfl ?_
    refine V_aload_n d_OpL_measureDown_71 rfl (isr_ref _) ?_
    refine V_getf d_OpL_measureDown_72 f_OpL_66 ((mu_ne _ _ hba).trans hb) rfl ?_
    refine V_i2l d_OpL_measureDown_75 ?_
    refine V_aload_n d_OpL_measureDown_76 rfl (isr_ref _) ?_
    refine V_getf d_OpL_measureDown_77 f_OpL_73 ((mu_ne _ _ hba).trans hb) rfl ?_
    refine V_i2l d_OpL_measureDown_80 ?_
    refine V_ladd d_OpL_measureDown_81 ?_
    refine V_maxl d_OpL_measureDown_82 mx_OpL_76 mxl1 mx0 mxl2 (by decide) (Nat.le_of_ble_eq_true rfl) ?_
    refine V_putf d_OpL_measureDown_85 f_OpL_62 (mu_self _ _ _) (rfl) (rfl) (Nat.le_of_ble_eq_true rfl) ?_
    rw [mu_mu]
    exact V_return d_OpL_measureDown_88 rfl ⟨rfl, by rw [olmD, if_neg h18]; rfl⟩
  · refine V_aload_n d_OpL_measureDown_21 rfl (isr_ref _) ?_
    refine V_dup d_OpL_measureDown_22 rfl ?_
    refine V_getf d_OpL_measureDown_23 f_OpL_68 (mu_self _ _ _) rfl ?_
    refine V_aload_n d_OpL_measureDown_26 rfl (isr_ref _) ?_
    refine V_getf d_OpL_measureDown_27 f_OpL_66 ((mu_ne _ _ hba).trans hb) rfl ?_
    refine V_i2l d_OpL_measureDown_30 ?_
    refine V_ladd d_OpL_measureDown_31 ?_
    refine V_putf d_OpL_measureDown_32 f_OpL_68 (mu_self _ _ _) (rfl) (rfl) (Nat.le_of_ble_eq_true rfl) ?_
    rw [mu_mu]
    refine V_aload_n d_OpL_measureDown_35 rfl (isr_ref _) ?_
    refine V_lconst (v := 0) d_OpL_measureDown_36 (by decide) ?_
    refine V_putf d_OpL_measureDown_37 f_OpL_79 (mu_self _ _ _) (rfl) (rfl) (Nat.le_of_ble_eq_true rfl) ?_
    refine V_goto 88 d_OpL_measureDown_40 (by decide) ?_
    rw [mu_mu]
    exact V_return d_OpL_measureDown_88 rfl ⟨rfl, by rw [olmD, if_pos (Classical.not_not.mp h18)]; rfl⟩
