/-! The reference's small methods. -/
def isz (x : Int32) : Int32 := if -1073741823 ≤ x ∧ x ≤ 1073741823 then 1 else 0
def iszl (x : Int64) : Int32 := if -1073741823 ≤ x ∧ x ≤ 1073741823 then 1 else 0
/-- what lies in the registers, in all -/
def shv (r : RS) : Int32 := bx_sum (gB r 12) 8
def hrm (r : RS) (x : Int32) : Int32 := if gF r 11 + shv r + x ≤ 3000 then 1 else 0
def stt (r : RS) (k : Nat) : Int32 := 3100 + bx_sum (gB r 12) k
def mv1 (r : RS) (k a b : Nat) : RS := sB r k (upd (gB r k) b (gB r k a))
def mv (r : RS) (a b : Nat) : RS := mv1 (mv1 (mv1 (mv1 (mv1 (mv1 (mv1 r 1 a b) 2 a b) 3 a b) 4 a b) 5 a b) 6 a b) 7 a b
theorem nz0 : narrow .boolean (.int 0) = .int 0 := by decide
theorem nz1 : narrow .boolean (.int 1) = .int 1 := by decide
set_option maxRecDepth 100000 in
set_option maxHeartbeats 4000000 in
theorem Mod_thrown {l : Launch} {D : va_G} {ac : Nat → ClassId} {o : Nat} {ad : Nat → Nat} {r : RS} : RCi l D ac o ad t_Mod_thrown [] r (gF r 0) r := fun M0 => by
  refine Ct_of (by decide) (Nat.le_of_ble_eq_true rfl) ?_
  refine V_ar_n d_Mod_thrown_0 rfl ?_
  refine VR_geti d_Mod_thrown_1 f_Mod_81 (by decide) ?_
  exact V_ireturn d_Mod_thrown_4 rfl ⟨rfl, rfl⟩
set_option maxRecDepth 100000 in
set_option maxHeartbeats 4000000 in
theorem Mod_isSize {l : Launch} {D : va_G} {ac : Nat → ClassId} (x : Int32) : SCi l D ac t_Mod_isSize [.int x] (isz x) := fun M => by
  refine Ct_of (by decide) (Nat.le_of_ble_eq_true rfl) ?_
  refine V_iload_n d_Mod_isSize_0 rfl ?_
  refine V_ldc d_Mod_isSize_1 k_Mod_84 ?_
  refine V_icmp_lt 16 d_Mod_isSize_3 (by decide) (fun h3 => ?_) (fun h3 => ?_)
  · refine V_iconst (v := 0) d_Mod_isSize_16 (by decide) ?_
    exact V_zreturn d_Mod_isSize_17 rfl nz0 ⟨by rw [isz, if_neg (fun z => absurd h3 (Int32.not_lt.mpr z.1))], rfl⟩
  · refine V_iload_n d_Mod_isSize_6 rfl ?_
    refine V_ldc d_Mod_isSize_7 k_Mod_85 ?_
    refine V_icmp_gt 16 d_Mod_isSize_9 (by decide) (fun h9 => ?_) (fun h9 => ?_)
    · refine V_iconst (v := 0) d_Mod_isSize_16 (by decide) ?_
      exact V_zreturn d_Mod_isSize_17 rfl nz0 ⟨by rw [isz, if_neg (fun z => absurd h9 (Int32.not_lt.mpr z.2))], rfl⟩
    · refine V_iconst (v := 1) d_Mod_isSize_12 (by decide) ?_
      refine V_goto 17 d_Mod_isSize_13 (by decide) ?_
      exact V_zreturn d_Mod_isSize_17 rfl nz1 ⟨by rw [isz, if_pos ⟨Int32.not_lt.mp h3, Int32.not_lt.mp h9⟩], rfl⟩
set_option maxRecDepth 100000 in
set_option maxHeartbeats 4000000 in
theorem Mod_isSizeLong {l : Launch} {D : va_G} {ac : Nat → ClassId} (x : Int64) : SCi l D ac t_Mod_isSizeLong [.long x] (iszl x) := fun M => by
  refine Ct_of (by decide) (Nat.le_of_ble_eq_true rfl) ?_
  refine V_lload_n d_Mod_isSizeLong_0 rfl ?_
  refine V_ldc2 d_Mod_isSizeLong_1 k_Mod_86 ?_
  refine V_lcmp d_Mod_isSizeLong_4 ?_
  refine V_if_lt 20 d_Mod_isSizeLong_5 (by decide) (fun h5 => ?_) (fun h5 => ?_)
  · refine V_iconst (v := 0) d_Mod_isSizeLong_20 (by decide) ?_
    exact V_zreturn d_Mod_isSizeLong_21 rfl nz0 ⟨by rw [iszl, if_neg (fun z => absurd ((lg_cmp_lt _ _).mp h5) (Int64.not_lt.mpr z.1))], rfl⟩
  · refine V_lload_n d_Mod_isSizeLong_8 rfl ?_
    refine V_ldc2 d_Mod_isSizeLong_9 k_Mod_88 ?_
    refine V_lcmp d_Mod_isSizeLong_12 ?_
    refine V_if_gt 20 d_Mod_isSizeLong_13 (by decide) (fun h13 => ?_) (fun h13 => ?_)
    · refine V_iconst (v := 0) d_Mod_isSizeLong_20 (by decide) ?_
      exact V_zreturn d_Mod_isSizeLong_21 rfl nz0 ⟨by rw [iszl, if_neg (fun z => absurd ((lg_cmp_gt _ _).mp h13) (Int64.not_lt.mpr z.2))], rfl⟩
    · refine V_iconst (v := 1) d_Mod_isSizeLong_16 (by decide) ?_
      refine V_goto 21 d_Mod_isSizeLong_17 (by decide) ?_
      exact V_zreturn d_Mod_isSizeLong_21 rfl nz1 ⟨by rw [iszl, if_pos ⟨Int64.not_lt.mp (fun z => h5 ((lg_cmp_lt _ _).mpr z)), Int64.not_lt.mp (fun z => h13 ((lg_cmp_gt _ _).mpr z))⟩], rfl⟩
set_option maxRecDepth 100000 in
set_option maxHeartbeats 4000000 in
theorem Mod_shelved_loop {l : Launch} {D : va_G} {ac : Nat → ClassId} {o : Nat} {ad : Nat → Nat} {r : RS} {M0 : MP} (hA : rAD o ad) : ∀ j i : Nat, i + j = 8 → V l D (tyl ac) t_Mod_shelved 0 0 4 [(2, .int (nI i)), (1, .int (bx_sum (gB r 12) i)), (0, .ref o)] [] (rM ac o ad r M0) (fun x M' => x = some (.int (shv r)) ∧ M' = rM ac o ad r M0) := by
  intro j
  induction j with
  | zero =>
    intro i hi
    refine V_iload_n d_Mod_shelved_4 rfl ?_
    refine V_bipush (v := nI 8) d_Mod_shelved_5 (by decide) ?_
    refine V_icmp_ge 25 d_Mod_shelved_7 (by decide) (fun h7 => ?_) (fun h7 => ?_)
    · refine V_iload_n d_Mod_shelved_25 rfl ?_
      exact V_ireturn d_Mod_shelved_26 rfl ⟨by rw [show i = 8 by omega]; rfl, rfl⟩
    · exact absurd (nI_le (show 8 ≤ i by omega) (by omega)) h7
  | succ j ih =>
    intro i hi
    have ih : ∀ i : Nat, i + j = 8 → _ := ih
    refine V_iload_n d_Mod_shelved_4 rfl ?_
    refine V_bipush (v := nI 8) d_Mod_shelved_5 (by decide) ?_
    refine V_icmp_ge 25 d_Mod_shelved_7 (by decide) (fun h7 => ?_) (fun h7 => ?_)
    · exact absurd h7 (nI_ge (by omega) (by decide))
    · refine V_iload_n d_Mod_shelved_10 rfl ?_
      refine V_ar_n d_Mod_shelved_11 rfl ?_
      refine VR_geta d_Mod_shelved_12 f_Mod_38 (by decide) ?_
      refine V_iload_n d_Mod_shelved_15 rfl ?_
      refine VR_iald hA d_Mod_shelved_16 rfl (by omega) (by decide) ?_
      refine V_iadd d_Mod_shelved_17 ?_
      refine V_istore_n (lv' := [(1, .int (bx_sum (gB r 12) (i + 1))), (2, .int (nI i)), (0, .ref o)]) d_Mod_shelved_18 (by decide) rfl ?_
      refine V_iinc (v := nI (i + 1)) (lv' := [(2, .int (nI (i + 1))), (1, .int (bx_sum (gB r 12) (i + 1))), (0, .ref o)]) 1 d_Mod_shelved_19 rfl (nI_1 i) (by decide) rfl ?_
      refine V_goto 4 d_Mod_shelved_22 (by decide) ?_
      exact ih (i + 1) (by omega)
set_option maxRecDepth 100000 in
set_option maxHeartbeats 4000000 in
theorem Mod_shelved {l : Launch} {D : va_G} {ac : Nat → ClassId} {o : Nat} {ad : Nat → Nat} {r : RS} (hA : rAD o ad) : RCi l D ac o ad t_Mod_shelved [] r (shv r) r := fun M0 => by
  refine Ct_of (by decide) (Nat.le_of_ble_eq_true rfl) ?_
  refine V_iconst (v := bx_sum (gB r 12) 0) d_Mod_shelved_0 (by rfl) ?_
  refine V_istore_n (lv' := [(1, .int (bx_sum (gB r 12) 0)), (0, .ref o)]) d_Mod_shelved_1 (by decide) rfl ?_
  refine V_iconst (v := nI 0) d_Mod_shelved_2 (by decide) ?_
  refine V_istore_n (lv' := [(2, .int (nI 0)), (1, .int (bx_sum (gB r 12) 0)), (0, .ref o)]) d_Mod_shelved_3 (by decide) rfl ?_
  exact Mod_shelved_loop hA 8 0 rfl
set_option maxRecDepth 100000 in
set_option maxHeartbeats 4000000 in
theorem Mod_hasRoom {l : Launch} {D : va_G} {ac : Nat → ClassId} {o : Nat} {ad : Nat → Nat} {r : RS} (hA : rAD o ad) (x : Int32) : RCi l D ac o ad t_Mod_hasRoom [.int x] r (hrm r x) r := fun M0 => by
  refine Ct_of (by decide) (Nat.le_of_ble_eq_true rfl) ?_
  refine V_ar_n d_Mod_hasRoom_0 rfl ?_
  refine VR_geti d_Mod_hasRoom_1 f_Mod_90 (by decide) ?_
  refine V_ar_n d_Mod_hasRoom_4 rfl ?_
  refine VR_ci0 d_Mod_hasRoom_5 c_Mod_93 (Mod_shelved hA) ⟨by decide, by decide⟩ rfl (Nat.le_of_ble_eq_true rfl) ?_
  refine V_iadd d_Mod_hasRoom_8 ?_
  refine V_iload_n d_Mod_hasRoom_9 rfl ?_
  refine V_iadd d_Mod_hasRoom_10 ?_
  refine V_sipush (v := 3000) d_Mod_hasRoom_11 (by decide) ?_
  refine V_icmp_gt 21 d_Mod_hasRoom_14 (by decide) (fun h14 => ?_) (fun h14 => ?_)
  · refine V_iconst (v := 0) d_Mod_hasRoom_21 (by decide) ?_
    exact V_zreturn d_Mod_hasRoom_22 rfl nz0 ⟨by rw [hrm, if_neg (Int32.not_le.mpr h14)], rfl⟩
  · refine V_iconst (v := 1) d_Mod_hasRoom_17 (by decide) ?_
    refine V_goto 22 d_Mod_hasRoom_18 (by decide) ?_
    exact V_zreturn d_Mod_hasRoom_22 rfl nz1 ⟨by rw [hrm, if_pos (Int32.not_lt.mp h14)], rfl⟩
set_option maxRecDepth 100000 in
set_option maxHeartbeats 4000000 in
theorem Mod_start_loop {l : Launch} {D : va_G} {ac : Nat → ClassId} {o : Nat} {ad : Nat → Nat} {r : RS} {M0 : MP} (hA : rAD o ad) {k : Nat} (hk : k ≤ 8) : ∀ j i : Nat, i + j = k → i ≤ 8 → V l D (tyl ac) t_Mod_start 0 0 6 [(3, .int (nI i)), (2, .int (stt r i)), (0, .ref o), (1, .int (nI k))] [] (rM ac o ad r M0) (fun x M' => x = some (.int (stt r k)) ∧ M' = rM ac o ad r M0) := by
  intro j
  induction j with
  | zero =>
    intro i hi h8i
    refine V_iload_n d_Mod_start_6 rfl ?_
    refine V_iload_n d_Mod_start_7 rfl ?_
    refine V_icmp_ge 26 d_Mod_start_8 (by decide) (fun h8 => ?_) (fun h8 => ?_)
    · refine V_iload_n d_Mod_start_26 rfl ?_
      exact V_ireturn d_Mod_start_27 rfl ⟨by rw [show i = k by omega], rfl⟩
    · exact absurd (nI_le (show k ≤ i by omega) (by omega)) h8
  | succ j ih =>
    intro i hi h8i
    refine V_iload_n d_Mod_start_6 rfl ?_
    refine V_iload_n d_Mod_start_7 rfl ?_
    refine V_icmp_ge 26 d_Mod_start_8 (by decide) (fun h8 => ?_) (fun h8 => ?_)
    · exact absurd h8 (nI_ge (by omega) (by omega))
    · refine V_iload_n d_Mod_start_11 rfl ?_
      refine V_ar_n d_Mod_start_12 rfl ?_
      refine VR_geta d_Mod_start_13 f_Mod_38 (by decide) ?_
      refine V_iload_n d_Mod_start_16 rfl ?_
      refine VR_iald hA d_Mod_start_17 rfl (by omega) (by decide) ?_
      refine V_iadd d_Mod_start_18 ?_
      refine V_eqi (show stt r i + gB r 12 i = stt r (i + 1) from Int32.add_assoc _ _ _) ?_
      refine V_istore_n (lv' := [(2, .int (stt r (i + 1))), (3, .int (nI i)), (0, .ref o), (1, .int (nI k))]) d_Mod_start_19 (by decide) rfl ?_
      refine V_iinc (v := nI (i + 1)) (lv' := [(3, .int (nI (i + 1))), (2, .int (stt r (i + 1))), (0, .ref o), (1, .int (nI k))]) 1 d_Mod_start_20 rfl (nI_1 i) (by decide) rfl ?_
      refine V_goto 6 d_Mod_start_23 (by decide) ?_
      exact ih (i + 1) (by omega) (by omega)
set_option maxRecDepth 100000 in
set_option maxHeartbeats 4000000 in
theorem Mod_start {l : Launch} {D : va_G} {ac : Nat → ClassId} {o : Nat} {ad : Nat → Nat} {r : RS} (hA : rAD o ad) {k : Nat} (hk : k ≤ 8) : RCi l D ac o ad t_Mod_start [.int (nI k)] r (stt r k) r := fun M0 => by
  refine Ct_of (by decide) (Nat.le_of_ble_eq_true rfl) ?_
  refine V_sipush (v := stt r 0) d_Mod_start_0 (by rfl) ?_
  refine V_istore_n (lv' := [(2, .int (stt r 0)), (0, .ref o), (1, .int (nI k))]) d_Mod_start_3 (by decide) rfl ?_
  refine V_iconst (v := nI 0) d_Mod_start_4 (by decide) ?_
  refine V_istore_n (lv' := [(3, .int (nI 0)), (2, .int (stt r 0)), (0, .ref o), (1, .int (nI k))]) d_Mod_start_5 (by decide) rfl ?_
  exact Mod_start_loop hA hk k 0 (by omega) (by omega)
set_option maxRecDepth 100000 in
set_option maxHeartbeats 4000000 in
theorem Mod_move {l : Launch} {D : va_G} {ac : Nat → ClassId} {o : Nat} {ad : Nat → Nat} {r : RS} (hA : rAD o ad) {a b : Nat} (ha : a < 6200) (hb : b < 6200) : RCv l D ac o ad t_Mod_move [.int (nI a), .int (nI b)] r (mv r a b) := fun M0 => by
  refine Ct_of (by decide) (Nat.le_of_ble_eq_true rfl) ?_
  refine V_ar_n d_Mod_move_0 rfl ?_
  refine VR_geta d_Mod_move_1 f_Mod_7 (by decide) ?_
  refine V_iload_n d_Mod_move_4 rfl ?_
  refine V_ar_n d_Mod_move_5 rfl ?_
  refine VR_geta d_Mod_move_6 f_Mod_7 (by decide) ?_
  refine V_iload_n d_Mod_move_9 rfl ?_
  refine VR_iald hA d_Mod_move_10 rfl (by omega) (by decide) ?_
  refine VR_iast hA d_Mod_move_11 rfl (by omega) (by decide) ?_
  refine V_ar_n d_Mod_move_12 rfl ?_
  refine VR_geta d_Mod_move_13 f_Mod_13 (by decide) ?_
  refine V_iload_n d_Mod_move_16 rfl ?_
  refine V_ar_n d_Mod_move_17 rfl ?_
  refine VR_geta d_Mod_move_18 f_Mod_13 (by decide) ?_
  refine V_iload_n d_Mod_move_21 rfl ?_
  refine VR_iald hA d_Mod_move_22 rfl (by omega) (by decide) ?_
  refine VR_iast hA d_Mod_move_23 rfl (by omega) (by decide) ?_
  refine V_ar_n d_Mod_move_24 rfl ?_
  refine VR_geta d_Mod_move_25 f_Mod_16 (by decide) ?_
  refine V_iload_n d_Mod_move_28 rfl ?_
  refine V_ar_n d_Mod_move_29 rfl ?_
  refine VR_geta d_Mod_move_30 f_Mod_16 (by decide) ?_
  refine V_iload_n d_Mod_move_33 rfl ?_
  refine VR_iald hA d_Mod_move_34 rfl (by omega) (by decide) ?_
  refine VR_iast hA d_Mod_move_35 rfl (by omega) (by decide) ?_
  refine V_ar_n d_Mod_move_36 rfl ?_
  refine VR_geta d_Mod_move_37 f_Mod_19 (by decide) ?_
  refine V_iload_n d_Mod_move_40 rfl ?_
  refine V_ar_n d_Mod_move_41 rfl ?_
  refine VR_geta d_Mod_move_42 f_Mod_19 (by decide) ?_
  refine V_iload_n d_Mod_move_45 rfl ?_
  refine VR_iald hA d_Mod_move_46 rfl (by omega) (by decide) ?_
  refine VR_iast hA d_Mod_move_47 rfl (by omega) (by decide) ?_
  refine V_ar_n d_Mod_move_48 rfl ?_
  refine VR_geta d_Mod_move_49 f_Mod_22 (by decide) ?_
  refine V_iload_n d_Mod_move_52 rfl ?_
  refine V_ar_n d_Mod_move_53 rfl ?_
  refine VR_geta d_Mod_move_54 f_Mod_22 (by decide) ?_
  refine V_iload_n d_Mod_move_57 rfl ?_
  refine VR_iald hA d_Mod_move_58 rfl (by omega) (by decide) ?_
  refine VR_iast hA d_Mod_move_59 rfl (by omega) (by decide) ?_
  refine V_ar_n d_Mod_move_60 rfl ?_
  refine VR_geta d_Mod_move_61 f_Mod_25 (by decide) ?_
  refine V_iload_n d_Mod_move_64 rfl ?_
  refine V_ar_n d_Mod_move_65 rfl ?_
  refine VR_geta d_Mod_move_66 f_Mod_25 (by decide) ?_
  refine V_iload_n d_Mod_move_69 rfl ?_
  refine VR_iald hA d_Mod_move_70 rfl (by omega) (by decide) ?_
  refine VR_iast hA d_Mod_move_71 rfl (by omega) (by decide) ?_
  refine V_ar_n d_Mod_move_72 rfl ?_
  refine VR_geta d_Mod_move_73 f_Mod_28 (by decide) ?_
  refine V_iload_n d_Mod_move_76 rfl ?_
  refine V_ar_n d_Mod_move_77 rfl ?_
  refine VR_geta d_Mod_move_78 f_Mod_28 (by decide) ?_
  refine V_iload_n d_Mod_move_81 rfl ?_
  refine VR_iald hA d_Mod_move_82 rfl (by omega) (by decide) ?_
  refine VR_iast hA d_Mod_move_83 rfl (by omega) (by decide) ?_
  exact V_return d_Mod_move_84 rfl ⟨rfl, rfl⟩
