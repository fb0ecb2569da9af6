/-! ship, put together. r: the state with 'good' set, before placeAll -/
def sh0 (r : RS) (n p m : Nat) : FS := (plr r p m, n)
def sh1 (r : RS) (n p m : Nat) : FS := fin1 (sh0 r n p m)
def sh3 (r : RS) (n p m : Nat) : FS := shw (shp (sh1 r n p m)) p m
def shE (r : RS) (n p m : Nat) (dp : Int32) : RS := she (sh3 r n p m) n (sh1 r n p m).2 p dp
/-- all is in range -/
def shk (r : RS) (n p m q k : Nat) (dp : Int32) : Prop := 0 < m ∧ m ≤ 3100 ∧ p + m ≤ 6200 ∧ n ≤ 200000 ∧ plok p (m - 1) (p + 1) (pl0 r p) ∧ okf (sh0 r n p m) ∧ (¬ gF (shp (sh1 r n p m)).1 33 = 0 → waok p m p (sF (shp (sh1 r n p m)).1 27 (nI 0), (shp (sh1 r n p m)).2)) ∧ okf (sh3 r n p m) ∧ (sh3 r n p m).2 + 1 ≤ 320000 ∧ stt (shE r n p m dp) k = nI p ∧ gB (shE r n p m dp) 12 k = nI m ∧ 3100 + shv (shE r n p m dp) = nI q ∧ p + m ≤ q ∧ q ≤ 6200 ∧ k < 8
theorem fin1_wl (s : FS) : (fin1 s).1 = if s.2 = 0 then wl s.1 0 begl else s.1 := by
  unfold fin1
  by_cases h0 : s.2 = 0
  · rw [if_pos h0, if_pos h0, wpl_wl, h0]
  · rw [if_neg h0, if_neg h0]
theorem fin1_ok {s : FS} (h : okf s) : okf (fin1 s) ∧ s.2 ≤ (fin1 s).2 ∧ (fin1 s).2 ≤ s.2 + 15 := by
  unfold fin1
  split
  · refine ⟨wpl_ok h _, ?_, ?_⟩ <;> rw [wpl_2] <;> simp [begl, tot]
  · exact ⟨h, by omega, by omega⟩
set_option maxRecDepth 100000 in
set_option maxHeartbeats 4000000 in
theorem SH_106 {l : Launch} {D : va_G} {ac : Nat → ClassId} {o : Nat} {ad : Nat → Nat} {M0 : MP} {r : RS} (hA : rAD o ad) {k n p m q : Nat} {dp : Int32} (hk : shk r n p m q k dp) : V l D (tyl ac) t_Mod_ship 0 0 106 [(0, .ref o), (1, .int (nI k)), (2, .int (nI n)), (3, .int dp), (4, .int (nI p)), (5, .int (nI m))] [] (rM ac o ad (r) M0) (fun rv M' => rv = some (.int (if gF (shE r n p m dp) 0 ≤ 0 then gF (shE r n p m dp) 18 else 0)) ∧ M' = rM ac o ad (emp (shE r n p m dp) p m q k) M0) := by
  obtain ⟨k1, k2, k3, k4, k5, k6, k7, k8, k9, k10, k11, k12, k13, k14, k15⟩ := hk
  refine V_ar_n d_Mod_ship_106 rfl ?_
  refine V_iload d_Mod_ship_107 rfl ?_
  refine V_iload d_Mod_ship_109 rfl ?_
  refine VR_cv2 d_Mod_ship_111 c_Mod_208 (Mod_placeAll hA k1 k3 k2 k5) ⟨by decide, by decide⟩ rfl (Nat.le_of_ble_eq_true rfl) ?_
  refine V_ar_n d_Mod_ship_114 rfl ?_
  refine VR_cv0 d_Mod_ship_115 c_Mod_211 (Mod_writeBeginning (r := (sh0 r n p m).1) hA k6 (show n + 15 ≤ 320000 by omega)) ⟨by decide, by decide⟩ rfl (Nat.le_of_ble_eq_true rfl) ?_
  have e1 : (sh1 r n p m).1 = if (sh0 r n p m).2 = 0 then wl (sh0 r n p m).1 0 begl else (sh0 r n p m).1 := fin1_wl (sh0 r n p m)
  have o1 := fin1_ok k6
  have o2 : (sh1 r n p m).2 ≤ n + 15 := o1.2.2
  have o3 : okf (sh1 r n p m) := o1.1
  rw [← e1]
  have hE : shE r n p m dp = she (shw (shp (sh1 r n p m)) p m) n (sh1 r n p m).2 p dp := rfl
  have h3 : sh3 r n p m = shw (shp (sh1 r n p m)) p m := rfl
  rw [h3] at k8 k9
  rw [hE] at k10 k11 k12 ⊢
  generalize sh1 r n p m = S1 at k7 k8 k9 k10 k11 k12 o2 o3 ⊢
  refine SH_118 hA o3 (by omega) ?_
  generalize shp S1 = S2 at k7 k8 k9 k10 k11 k12 ⊢
  refine SH_203 hA (by omega) k3 k2 k7 k8 k9 ?_
  generalize shw S2 p m = S3 at k8 k9 k10 k11 k12 ⊢
  exact SH_371 hA k10 k11 k12 k13 k14 k15
set_option maxRecDepth 100000 in
set_option maxHeartbeats 4000000 in
theorem SH_86 {l : Launch} {D : va_G} {ac : Nat → ClassId} {o : Nat} {ad : Nat → Nat} {M0 : MP} {r : RS} (hA : rAD o ad) {k n p m q : Nat} {dp : Int32} (hk8 : k < 8) (hst : stt r k = nI p) (hsz : gB r 12 k = nI m) (hk : shk (sF r 33 1) n p m q k dp) : V l D (tyl ac) t_Mod_ship 0 0 86 [(0, .ref o), (1, .int (nI k)), (2, .int (nI n)), (3, .int dp)] [] (rM ac o ad (r) M0) (fun rv M' => rv = some (.int (if gF (shE (sF r 33 1) n p m dp) 0 ≤ 0 then gF (shE (sF r 33 1) n p m dp) 18 else 0)) ∧ M' = rM ac o ad (emp (shE (sF r 33 1) n p m dp) p m q k) M0) := by
  refine V_ar_n d_Mod_ship_86 rfl ?_
  refine V_iload_n d_Mod_ship_87 rfl ?_
  refine VR_ci1 d_Mod_ship_88 c_Mod_119 (Mod_start hA (by omega)) ⟨by decide, by decide⟩ rfl (Nat.le_of_ble_eq_true rfl) ?_
  refine V_eqi (show _ = nI p from hst) ?_
  refine V_istore (lv' := [(4, .int (nI p)), (0, .ref o), (1, .int (nI k)), (2, .int (nI n)), (3, .int dp)]) d_Mod_ship_91 (by decide) rfl ?_
  refine V_ar_n d_Mod_ship_93 rfl ?_
  refine VR_geta d_Mod_ship_94 f_Mod_38 (by decide) ?_
  refine V_iload_n d_Mod_ship_97 rfl ?_
  refine VR_iald hA d_Mod_ship_98 rfl (by omega) (by decide) ?_
  refine V_eqi (show _ = nI m from hsz) ?_
  refine V_istore (lv' := [(5, .int (nI m)), (4, .int (nI p)), (0, .ref o), (1, .int (nI k)), (2, .int (nI n)), (3, .int dp)]) d_Mod_ship_99 (by decide) rfl ?_
  refine V_ar_n d_Mod_ship_101 rfl ?_
  refine V_iconst (v := 1) d_Mod_ship_102 (by decide) ?_
  refine VR_putz d_Mod_ship_103 f_Mod_156 (by decide) (okz1) ?_
  refine V_lv [2, 3, 4, 5, 1, 0] rfl ?_
  exact SH_106 hA hk
abbrev shok (r : RS) (x : Int32) (n : Nat) : Prop := gF r 19 = 0 ∧ ¬ isf r x = 0 ∧ n < 200000
/-- the state before placeAll -/
def shA (r : RS) : RS := sF (ubk 32 (sF r 0 0) 0) 33 1
def shv0 (r : RS) (n p m : Nat) : Int32 := if gF (shE (shA r) n p m (gF r 24)) 0 ≤ 0 then gF (shE (shA r) n p m (gF r 24)) 18 else 0
def shno (r : RS) (x : Int32) : RS := sF r 0 (if gF r 19 = 0 ∧ ¬ isf r x = 0 then 2 else 1)
set_option maxRecDepth 100000 in
set_option maxHeartbeats 4000000 in
theorem Mod_ship {l : Launch} {D : va_G} {ac : Nat → ClassId} {o : Nat} {ad : Nat → Nat} {r : RS} (hA : rAD o ad) {k n p m q : Nat} {x : Int32} (hn : gF r 18 = nI n) (hn2 : n ≤ 320000) (hy : shok r x n → x = nI k ∧ k < 8 ∧ stt r k = nI p ∧ gB r 12 k = nI m ∧ shk (shA r) n p m q k (gF r 24)) : RCi l D ac o ad t_Mod_ship [.int x] r (if shok r x n then shv0 r n p m else 0) (if shok r x n then emp (shE (shA r) n p m (gF r 24)) p m q k else shno r x) := fun M0 => by
  refine Ct_of (by decide) (Nat.le_of_ble_eq_true rfl) ?_
  refine V_ar_n d_Mod_ship_0 rfl ?_
  refine V_ar_n d_Mod_ship_1 rfl ?_
  refine VR_geti d_Mod_ship_2 f_Mod_204 (by decide) ?_
  refine V_if_ne 16 d_Mod_ship_5 (by decide) (fun h5 => ?_) (fun h5 => ?_)
  · refine V_iconst (v := 1) d_Mod_ship_16 (by decide) ?_
    refine V_goto 34 d_Mod_ship_17 (by decide) ?_
    refine VR_puti d_Mod_ship_34 f_Mod_81 (by decide) ?_
    refine V_ar_n d_Mod_ship_37 rfl ?_
    refine VR_geti d_Mod_ship_38 f_Mod_81 (by decide) ?_
    refine V_if_le 46 d_Mod_ship_41 (by decide) (fun h41 => ?_) (fun h41 => ?_)
    · exact absurd (show (1 : Int32) ≤ 0 from h41) (by decide)
    · refine V_iconst (v := 0) d_Mod_ship_44 (by decide) ?_
      exact V_ireturn d_Mod_ship_45 rfl ⟨by rw [if_neg (fun z => h5 z.1)], by rw [if_neg (fun z => h5 z.1), shno, if_neg (fun z => h5 z.1)]⟩
  · have h5n := Classical.not_not.mp h5
    refine V_ar_n d_Mod_ship_8 rfl ?_
    refine V_iload_n d_Mod_ship_9 rfl ?_
    refine VR_ci1 d_Mod_ship_10 c_Mod_142 (Mod_isFull hA x) ⟨by decide, by decide⟩ rfl (Nat.le_of_ble_eq_true rfl) ?_
    refine V_if_ne 20 d_Mod_ship_13 (by decide) (fun h13 => ?_) (fun h13 => ?_)
    · refine V_ar_n d_Mod_ship_20 rfl ?_
      refine VR_geti d_Mod_ship_21 f_Mod_145 (by decide) ?_
      refine V_eqi (show _ = nI n from hn) ?_
      refine V_ldc d_Mod_ship_24 k_Mod_207 ?_
      refine V_icmp_lt 33 d_Mod_ship_26 (by decide) (fun h26 => ?_) (fun h26 => ?_)
      · have hlt : n < 200000 := (nI_ltI (by omega) (by decide)).mp h26
        have hok : shok r x n := ⟨h5n, h13, hlt⟩
        obtain ⟨hx, hk8, hst, hsz, hk⟩ := hy hok
        subst hx
        refine V_iconst (v := 0) d_Mod_ship_33 (by decide) ?_
        refine VR_puti d_Mod_ship_34 f_Mod_81 (by decide) ?_
        refine V_ar_n d_Mod_ship_37 rfl ?_
        refine VR_geti d_Mod_ship_38 f_Mod_81 (by decide) ?_
        refine V_if_le 46 d_Mod_ship_41 (by decide) (fun h41 => ?_) (fun h41 => ?_)
        · rw [if_pos hok, if_pos hok]
          refine V_ar_n d_Mod_ship_46 rfl ?_
          refine VR_geti d_Mod_ship_47 f_Mod_145 (by decide) ?_
          refine V_eqi (show _ = nI n from hn) ?_
          refine V_istore_n (lv' := [(2, .int (nI n)), (0, .ref o), (1, .int (nI k))]) d_Mod_ship_50 (by decide) rfl ?_
          refine V_ar_n d_Mod_ship_51 rfl ?_
          refine VR_geti d_Mod_ship_52 f_Mod_191 (by decide) ?_
          refine V_istore_n (lv' := [(3, .int (gF r 24)), (2, .int (nI n)), (0, .ref o), (1, .int (nI k))]) d_Mod_ship_55 (by decide) rfl ?_
          refine V_iconst (v := nI 0) d_Mod_ship_56 (by decide) ?_
          refine V_istore (lv' := [(4, .int (nI 0)), (3, .int (gF r 24)), (2, .int (nI n)), (0, .ref o), (1, .int (nI k))]) d_Mod_ship_57 (by decide) rfl ?_
          refine V_lv [3, 4, 2, 1, 0] rfl ?_
          refine SH_59 hA 32 0 (sF r 0 0) rfl ?_
          exact SH_86 hA hk8 (by unfold stt; rw [ubk_B (by decide)]; exact hst) (by rw [ubk_B (by decide)]; exact hsz) hk
        · exact absurd (show (0 : Int32) ≤ 0 by decide) h41
      · have hge : ¬ n < 200000 := fun z => h26 ((nI_ltI (by omega) (by decide)).mpr z)
        refine V_iconst (v := 2) d_Mod_ship_29 (by decide) ?_
        refine V_goto 34 d_Mod_ship_30 (by decide) ?_
        refine VR_puti d_Mod_ship_34 f_Mod_81 (by decide) ?_
        refine V_ar_n d_Mod_ship_37 rfl ?_
        refine VR_geti d_Mod_ship_38 f_Mod_81 (by decide) ?_
        refine V_if_le 46 d_Mod_ship_41 (by decide) (fun h41 => ?_) (fun h41 => ?_)
        · exact absurd (show (2 : Int32) ≤ 0 from h41) (by decide)
        · refine V_iconst (v := 0) d_Mod_ship_44 (by decide) ?_
          exact V_ireturn d_Mod_ship_45 rfl ⟨by rw [if_neg (fun z => hge z.2.2)], by rw [if_neg (fun z => hge z.2.2), shno, if_pos ⟨h5n, h13⟩]⟩
    · refine V_iconst (v := 1) d_Mod_ship_16 (by decide) ?_
      refine V_goto 34 d_Mod_ship_17 (by decide) ?_
      refine VR_puti d_Mod_ship_34 f_Mod_81 (by decide) ?_
      refine V_ar_n d_Mod_ship_37 rfl ?_
      refine VR_geti d_Mod_ship_38 f_Mod_81 (by decide) ?_
      refine V_if_le 46 d_Mod_ship_41 (by decide) (fun h41 => ?_) (fun h41 => ?_)
      · exact absurd (show (1 : Int32) ≤ 0 from h41) (by decide)
      · refine V_iconst (v := 0) d_Mod_ship_44 (by decide) ?_
        exact V_ireturn d_Mod_ship_45 rfl ⟨by rw [if_neg (fun z => h13 z.2.1)], by rw [if_neg (fun z => h13 z.2.1), shno, if_neg (fun z => h13 z.2)]⟩
