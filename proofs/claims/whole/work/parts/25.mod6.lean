/-! put; what is written in pieces -/
abbrev pok (r : RS) (x s c : Int32) : Prop := ¬ gF r 8 = 0 ∧ ¬ isf r x = 0 ∧ ¬ isz s = 0 ∧ (c = 0 ∨ ¬ hrm r (gB r 12 x.toNatClampNeg) = 0)
def puts1 (r : RS) (p n e : Nat) (s : Int32) : RS := sF (w1 (mvc p e n (sF r 0 0) 0) 5 e s) 11 (nI (e + n))
def puts (r : RS) (k p n q e : Nat) (s c : Int32) : RS := if c = 0 then emp (puts1 r p n e s) p n q k else puts1 r p n e s
theorem isf_of {r : RS} {x : Int32} (h : ¬ isf r x = 0) : ∃ k, k < 8 ∧ x = nI k := by
  unfold isf at h
  by_cases hc : ¬ x < 0 ∧ ¬ 8 ≤ x ∧ 0 < gB r 12 x.toNatClampNeg
  · exact nI_8 hc.1 hc.2.1
  · rw [if_neg hc] at h
    exact absurd rfl h
theorem puts1_12 (r : RS) (p n e : Nat) (s : Int32) : gB (puts1 r p n e s) 12 = gB r 12 := (mvc_B p e (k := 12) (by omega) n (sF r 0 0) 0)
set_option maxRecDepth 100000 in
set_option maxHeartbeats 4000000 in
theorem Mod_put_64 {l : Launch} {D : va_G} {ac : Nat → ClassId} {o : Nat} {ad : Nat → Nat} {M0 : MP} {Q : Option Value → MP → Prop} (hA : rAD o ad) {p n e : Nat} {x s c : Int32} (hp : p + n ≤ 6200) (he2 : e + n ≤ 6200) : ∀ (m i : Nat) (r : RS), i + m = n → gF r 11 = nI e → V l D (tyl ac) t_Mod_put 0 0 93 [(6, .int (nI n)), (5, .int (nI n)), (4, .int (nI p)), (0, .ref o), (1, .int x), (2, .int s), (3, .int c)] [] (rM ac o ad (mvc p e m r i) M0) Q → V l D (tyl ac) t_Mod_put 0 0 64 [(6, .int (nI i)), (5, .int (nI n)), (4, .int (nI p)), (0, .ref o), (1, .int x), (2, .int s), (3, .int c)] [] (rM ac o ad (r) M0) Q := by
  intro m
  induction m with
  | zero =>
    intro i r h1 he hK
    refine V_iload d_Mod_put_64 rfl ?_
    refine V_iload d_Mod_put_66 rfl ?_
    refine V_icmp_ge 93 d_Mod_put_68 (by decide) (fun h68 => ?_) (fun h68 => ?_)
    · have hi : i = n := by omega
      subst hi
      exact hK
    · exact absurd (nI_le (show n ≤ i by omega) (by omega)) h68
  | succ m ih =>
    intro i r h1 he hK
    refine V_iload d_Mod_put_64 rfl ?_
    refine V_iload d_Mod_put_66 rfl ?_
    refine V_icmp_ge 93 d_Mod_put_68 (by decide) (fun h68 => ?_) (fun h68 => ?_)
    · exact absurd h68 (nI_ge (by omega) (by omega))
    · refine V_ar_n d_Mod_put_71 rfl ?_
      refine V_iload d_Mod_put_72 rfl ?_
      refine V_iload d_Mod_put_74 rfl ?_
      refine V_iadd d_Mod_put_76 ?_
      refine V_eqi (nI_add p i) ?_
      refine V_ar_n d_Mod_put_77 rfl ?_
      refine VR_geti d_Mod_put_78 f_Mod_90 (by decide) ?_
      refine V_eqi (show _ = nI e from he) ?_
      refine V_iload d_Mod_put_81 rfl ?_
      refine V_iadd d_Mod_put_83 ?_
      refine V_eqi (nI_add e i) ?_
      refine VR_cv2 d_Mod_put_84 c_Mod_123 (Mod_move hA (by omega) (by omega)) ⟨by decide, by decide⟩ rfl (Nat.le_of_ble_eq_true rfl) ?_
      refine V_iinc (v := nI (i + 1)) (lv' := [(6, .int (nI (i + 1))), (5, .int (nI n)), (4, .int (nI p)), (0, .ref o), (1, .int x), (2, .int s), (3, .int c)]) 0 d_Mod_put_87 rfl (nI_1 i) (by decide) rfl ?_
      refine V_goto 64 d_Mod_put_90 (by decide) ?_
      exact ih (i + 1) _ (by omega) he hK
set_option maxRecDepth 100000 in
set_option maxHeartbeats 4000000 in
theorem Mod_put {l : Launch} {D : va_G} {ac : Nat → ClassId} {o : Nat} {ad : Nat → Nat} {r : RS} (hA : rAD o ad) {k p n q e : Nat} {x s c : Int32} (hy : pok r x s c → x = nI k ∧ k < 8 ∧ stt r k = nI p ∧ gB r 12 k = nI n ∧ 3100 + shv r = nI q ∧ p + n ≤ q ∧ q ≤ 6100 ∧ gF r 11 = nI e ∧ e + n ≤ 3100) : RCi l D ac o ad t_Mod_put [.int x, .int s, .int c] r (if pok r x s c then 1 else 0) (if pok r x s c then puts r k p n q e s c else sF r 0 0) := fun M0 => by
  refine Ct_of (by decide) (Nat.le_of_ble_eq_true rfl) ?_
  refine V_ar_n d_Mod_put_0 rfl ?_
  refine V_iconst (v := 0) d_Mod_put_1 (by decide) ?_
  refine VR_puti d_Mod_put_2 f_Mod_81 (by decide) ?_
  refine V_ar_n d_Mod_put_5 rfl ?_
  refine VR_geti d_Mod_put_6 f_Mod_97 (by decide) ?_
  refine V_if_eq 44 d_Mod_put_9 (by decide) (fun h9 => ?_) (fun h9 => ?_)
  · refine V_iconst (v := 0) d_Mod_put_44 (by decide) ?_
    exact V_zreturn d_Mod_put_45 rfl nz0 ⟨by rw [if_neg (fun z => z.1 h9)], by rw [if_neg (fun z => z.1 h9)]⟩
  · refine V_ar_n d_Mod_put_12 rfl ?_
    refine V_iload_n d_Mod_put_13 rfl ?_
    refine VR_ci1 d_Mod_put_14 c_Mod_142 (Mod_isFull hA x) ⟨by decide, by decide⟩ rfl (Nat.le_of_ble_eq_true rfl) ?_
    refine V_if_eq 44 d_Mod_put_17 (by decide) (fun h17 => ?_) (fun h17 => ?_)
    · refine V_iconst (v := 0) d_Mod_put_44 (by decide) ?_
      exact V_zreturn d_Mod_put_45 rfl nz0 ⟨by rw [if_neg (fun z => z.2.1 h17)], by rw [if_neg (fun z => z.2.1 h17)]⟩
    · refine V_iload_n d_Mod_put_20 rfl ?_
      refine VS_ci1 d_Mod_put_21 c_Mod_108 (Mod_isSize s) ⟨by decide, by decide⟩ (Nat.le_of_ble_eq_true rfl) ?_
      refine V_if_eq 44 d_Mod_put_24 (by decide) (fun h24 => ?_) (fun h24 => ?_)
      · refine V_iconst (v := 0) d_Mod_put_44 (by decide) ?_
        exact V_zreturn d_Mod_put_45 rfl nz0 ⟨by rw [if_neg (fun z => z.2.2.1 h24)], by rw [if_neg (fun z => z.2.2.1 h24)]⟩
      · refine V_iload_n d_Mod_put_27 rfl ?_
        refine V_if_eq 46 d_Mod_put_28 (by decide) (fun h28 => ?_) (fun h28 => ?_)
        · have hok : pok r x s c := ⟨h9, h17, h24, Or.inl h28⟩
          obtain ⟨hx, hk, hst, hsz, hall, hpq, hq, he, he2⟩ := hy hok
          subst hx
          refine V_ar_n d_Mod_put_46 rfl ?_
          refine V_iload_n d_Mod_put_47 rfl ?_
          refine VR_ci1 d_Mod_put_48 c_Mod_119 (Mod_start hA (by omega)) ⟨by decide, by decide⟩ rfl (Nat.le_of_ble_eq_true rfl) ?_
          refine V_eqi (show _ = nI p from hst) ?_
          refine V_istore (lv' := [(4, .int (nI p)), (0, .ref o), (1, .int (nI k)), (2, .int s), (3, .int c)]) d_Mod_put_51 (by decide) rfl ?_
          refine V_ar_n d_Mod_put_53 rfl ?_
          refine VR_geta d_Mod_put_54 f_Mod_38 (by decide) ?_
          refine V_iload_n d_Mod_put_57 rfl ?_
          refine VR_iald hA d_Mod_put_58 rfl (by omega) (by decide) ?_
          refine V_eqi (show _ = nI n from hsz) ?_
          refine V_istore (lv' := [(5, .int (nI n)), (4, .int (nI p)), (0, .ref o), (1, .int (nI k)), (2, .int s), (3, .int c)]) d_Mod_put_59 (by decide) rfl ?_
          refine V_iconst (v := nI 0) d_Mod_put_61 (by decide) ?_
          refine V_istore (lv' := [(6, .int (nI 0)), (5, .int (nI n)), (4, .int (nI p)), (0, .ref o), (1, .int (nI k)), (2, .int s), (3, .int c)]) d_Mod_put_62 (by decide) rfl ?_
          refine Mod_put_64 hA (by omega) (by omega) n 0 _ (by omega) he ?_
          refine V_ar_n d_Mod_put_93 rfl ?_
          refine VR_geta d_Mod_put_94 f_Mod_22 (by decide) ?_
          refine V_ar_n d_Mod_put_97 rfl ?_
          refine VR_geti d_Mod_put_98 f_Mod_90 (by decide) ?_
          refine V_eqi (show _ = nI e from (mvc_F p e 11 n (sF r 0 0) 0).trans he) ?_
          refine V_iload_n d_Mod_put_101 rfl ?_
          refine VR_iast hA d_Mod_put_102 rfl (by omega) (by decide) ?_
          refine V_ar_n d_Mod_put_103 rfl ?_
          refine V_dup d_Mod_put_104 rfl ?_
          refine VR_geti d_Mod_put_105 f_Mod_90 (by decide) ?_
          refine V_eqi (show _ = nI e from (mvc_F p e 11 n (sF r 0 0) 0).trans he) ?_
          refine V_iload d_Mod_put_108 rfl ?_
          refine V_iadd d_Mod_put_110 ?_
          refine V_eqi (nI_add e n) ?_
          refine VR_puti d_Mod_put_111 f_Mod_90 (by decide) ?_
          refine V_iload_n d_Mod_put_114 rfl ?_
          refine V_if_ne 123 d_Mod_put_115 (by decide) (fun h115 => ?_) (fun h115 => ?_)
          · refine V_iconst (v := 1) d_Mod_put_123 (by decide) ?_
            exact V_zreturn d_Mod_put_124 rfl nz1 ⟨by rw [if_pos hok], by rw [if_pos hok, puts, if_neg h115]; rfl⟩
          · have h12 := puts1_12 r p n e s
            refine V_ar_n d_Mod_put_118 rfl ?_
            refine V_iload_n d_Mod_put_119 rfl ?_
            refine VR_cv1 d_Mod_put_120 c_Mod_135 (Mod_empty (r := puts1 r p n e s) hA (by unfold stt; rw [h12]; exact hst) (by rw [h12]; exact hsz) (by unfold shv; rw [h12]; exact hall) hpq (by omega) hk) ⟨by decide, by decide⟩ rfl (Nat.le_of_ble_eq_true rfl) ?_
            refine V_iconst (v := 1) d_Mod_put_123 (by decide) ?_
            exact V_zreturn d_Mod_put_124 rfl nz1 ⟨by rw [if_pos hok], by rw [if_pos hok, puts, if_pos (Classical.not_not.mp h115)]⟩
        · obtain ⟨k1, hk1, ex⟩ := isf_of h17
          have hcl : x.toNatClampNeg = k1 := by rw [ex]; exact nI_clamp (by omega)
          refine V_ar_n d_Mod_put_31 rfl ?_
          refine V_ar_n d_Mod_put_32 rfl ?_
          refine VR_geta d_Mod_put_33 f_Mod_38 (by decide) ?_
          refine V_iload_n d_Mod_put_36 rfl ?_
          refine V_eqi ex ?_
          refine VR_iald hA d_Mod_put_37 rfl (by omega) (by decide) ?_
          refine VR_ci1 d_Mod_put_38 c_Mod_100 (Mod_hasRoom hA _) ⟨by decide, by decide⟩ rfl (Nat.le_of_ble_eq_true rfl) ?_
          refine V_if_ne 46 d_Mod_put_41 (by decide) (fun h41 => ?_) (fun h41 => ?_)
          · have hok : pok r x s c := ⟨h9, h17, h24, Or.inr (by rw [hcl]; exact h41)⟩
            obtain ⟨hx, hk, hst, hsz, hall, hpq, hq, he, he2⟩ := hy hok
            subst hx
            refine V_ar_n d_Mod_put_46 rfl ?_
            refine V_iload_n d_Mod_put_47 rfl ?_
            refine VR_ci1 d_Mod_put_48 c_Mod_119 (Mod_start hA (by omega)) ⟨by decide, by decide⟩ rfl (Nat.le_of_ble_eq_true rfl) ?_
            refine V_eqi (show _ = nI p from hst) ?_
            refine V_istore (lv' := [(4, .int (nI p)), (0, .ref o), (1, .int (nI k)), (2, .int s), (3, .int c)]) d_Mod_put_51 (by decide) rfl ?_
            refine V_ar_n d_Mod_put_53 rfl ?_
            refine VR_geta d_Mod_put_54 f_Mod_38 (by decide) ?_
            refine V_iload_n d_Mod_put_57 rfl ?_
            refine VR_iald hA d_Mod_put_58 rfl (by omega) (by decide) ?_
            refine V_eqi (show _ = nI n from hsz) ?_
            refine V_istore (lv' := [(5, .int (nI n)), (4, .int (nI p)), (0, .ref o), (1, .int (nI k)), (2, .int s), (3, .int c)]) d_Mod_put_59 (by decide) rfl ?_
            refine V_iconst (v := nI 0) d_Mod_put_61 (by decide) ?_
            refine V_istore (lv' := [(6, .int (nI 0)), (5, .int (nI n)), (4, .int (nI p)), (0, .ref o), (1, .int (nI k)), (2, .int s), (3, .int c)]) d_Mod_put_62 (by decide) rfl ?_
            refine Mod_put_64 hA (by omega) (by omega) n 0 _ (by omega) he ?_
            refine V_ar_n d_Mod_put_93 rfl ?_
            refine VR_geta d_Mod_put_94 f_Mod_22 (by decide) ?_
            refine V_ar_n d_Mod_put_97 rfl ?_
            refine VR_geti d_Mod_put_98 f_Mod_90 (by decide) ?_
            refine V_eqi (show _ = nI e from (mvc_F p e 11 n (sF r 0 0) 0).trans he) ?_
            refine V_iload_n d_Mod_put_101 rfl ?_
            refine VR_iast hA d_Mod_put_102 rfl (by omega) (by decide) ?_
            refine V_ar_n d_Mod_put_103 rfl ?_
            refine V_dup d_Mod_put_104 rfl ?_
            refine VR_geti d_Mod_put_105 f_Mod_90 (by decide) ?_
            refine V_eqi (show _ = nI e from (mvc_F p e 11 n (sF r 0 0) 0).trans he) ?_
            refine V_iload d_Mod_put_108 rfl ?_
            refine V_iadd d_Mod_put_110 ?_
            refine V_eqi (nI_add e n) ?_
            refine VR_puti d_Mod_put_111 f_Mod_90 (by decide) ?_
            refine V_iload_n d_Mod_put_114 rfl ?_
            refine V_if_ne 123 d_Mod_put_115 (by decide) (fun h115 => ?_) (fun h115 => ?_)
            · refine V_iconst (v := 1) d_Mod_put_123 (by decide) ?_
              exact V_zreturn d_Mod_put_124 rfl nz1 ⟨by rw [if_pos hok], by rw [if_pos hok, puts, if_neg h115]; rfl⟩
            · have h12 := puts1_12 r p n e s
              refine V_ar_n d_Mod_put_118 rfl ?_
              refine V_iload_n d_Mod_put_119 rfl ?_
              refine VR_cv1 d_Mod_put_120 c_Mod_135 (Mod_empty (r := puts1 r p n e s) hA (by unfold stt; rw [h12]; exact hst) (by rw [h12]; exact hsz) (by unfold shv; rw [h12]; exact hall) hpq (by omega) hk) ⟨by decide, by decide⟩ rfl (Nat.le_of_ble_eq_true rfl) ?_
              refine V_iconst (v := 1) d_Mod_put_123 (by decide) ?_
              exact V_zreturn d_Mod_put_124 rfl nz1 ⟨by rw [if_pos hok], by rw [if_pos hok, puts, if_pos (Classical.not_not.mp h115)]⟩
          · refine V_iconst (v := 0) d_Mod_put_44 (by decide) ?_
            exact V_zreturn d_Mod_put_45 rfl nz0 ⟨by rw [if_neg (fun z => z.2.2.2.elim h28 (fun y => h41 (by rw [hcl] at y; exact y)))], by rw [if_neg (fun z => z.2.2.2.elim h28 (fun y => h41 (by rw [hcl] at y; exact y)))]⟩
set_option maxRecDepth 100000 in
set_option maxHeartbeats 4000000 in
theorem Mod_writeNumbers {l : Launch} {D : va_G} {ac : Nat → ClassId} {o : Nat} {ad : Nat → Nat} {r : RS} (hA : rAD o ad) {n : Nat} (hn : gF r 18 = nI n) (hb : n + 12 ≤ 320000) : RCv l D ac o ad t_Mod_writeNumbers [] r (wl r n nums) := fun M0 => by
  refine Ct_of (by decide) (Nat.le_of_ble_eq_true rfl) ?_
  refine V_ar_n d_Mod_writeNumbers_0 rfl ?_
  refine V_ldc d_Mod_writeNumbers_1 k_Mod_148 ?_
  refine V_iconst (v := nI 4) d_Mod_writeNumbers_3 (by decide) ?_
  refine VR_cv2 d_Mod_writeNumbers_4 c_Mod_149 (Mod_write hA _ (hn) (by decide) (by omega)) ⟨by decide, by decide⟩ rfl (Nat.le_of_ble_eq_true rfl) ?_
  refine V_ar_n d_Mod_writeNumbers_7 rfl ?_
  refine V_ldc d_Mod_writeNumbers_8 k_Mod_152 ?_
  refine V_iconst (v := nI 4) d_Mod_writeNumbers_10 (by decide) ?_
  refine VR_cv2 d_Mod_writeNumbers_11 c_Mod_149 (Mod_write hA _ (wrt_len 4 hn) (by decide) (by omega)) ⟨by decide, by decide⟩ rfl (Nat.le_of_ble_eq_true rfl) ?_
  refine V_ar_n d_Mod_writeNumbers_14 rfl ?_
  refine V_sipush (v := 1000) d_Mod_writeNumbers_15 (by decide) ?_
  refine V_iconst (v := nI 4) d_Mod_writeNumbers_18 (by decide) ?_
  refine VR_cv2 d_Mod_writeNumbers_19 c_Mod_149 (Mod_write hA _ (wrt_len 4 (wrt_len 4 hn)) (by decide) (by omega)) ⟨by decide, by decide⟩ rfl (Nat.le_of_ble_eq_true rfl) ?_
  exact V_return d_Mod_writeNumbers_22 rfl ⟨rfl, rfl⟩
set_option maxRecDepth 100000 in
set_option maxHeartbeats 4000000 in
theorem Mod_writeBeginning {l : Launch} {D : va_G} {ac : Nat → ClassId} {o : Nat} {ad : Nat → Nat} {r : RS} (hA : rAD o ad) {n : Nat} (hn : gF r 18 = nI n) (hb : n + 15 ≤ 320000) : RCv l D ac o ad t_Mod_writeBeginning [] r (if n = 0 then wl r 0 begl else r) := fun M0 => by
  refine Ct_of (by decide) (Nat.le_of_ble_eq_true rfl) ?_
  refine V_ar_n d_Mod_writeBeginning_0 rfl ?_
  refine VR_geti d_Mod_writeBeginning_1 f_Mod_145 (by decide) ?_
  refine V_eqi (show _ = nI n from hn) ?_
  refine V_if_ne 31 d_Mod_writeBeginning_4 (by decide) (fun h4 => ?_) (fun h4 => ?_)
  · have h0 : n ≠ 0 := fun z => h4 (by rw [z]; rfl)
    exact V_return d_Mod_writeBeginning_31 rfl ⟨rfl, by rw [if_neg h0]⟩
  · have h0 : n = 0 := (nI_eq (by omega) (by decide)).mp (Classical.not_not.mp h4)
    subst h0
    refine V_ar_n d_Mod_writeBeginning_7 rfl ?_
    refine V_sipush (v := 247) d_Mod_writeBeginning_8 (by decide) ?_
    refine V_iconst (v := nI 1) d_Mod_writeBeginning_11 (by decide) ?_
    refine VR_cv2 d_Mod_writeBeginning_12 c_Mod_149 (Mod_write hA _ (hn) (by decide) (by omega)) ⟨by decide, by decide⟩ rfl (Nat.le_of_ble_eq_true rfl) ?_
    refine V_ar_n d_Mod_writeBeginning_15 rfl ?_
    refine V_iconst (v := 2) d_Mod_writeBeginning_16 (by decide) ?_
    refine V_iconst (v := nI 1) d_Mod_writeBeginning_17 (by decide) ?_
    refine VR_cv2 d_Mod_writeBeginning_18 c_Mod_149 (Mod_write hA _ (wrt_len 1 hn) (by decide) (by omega)) ⟨by decide, by decide⟩ rfl (Nat.le_of_ble_eq_true rfl) ?_
    refine V_ar_n d_Mod_writeBeginning_21 rfl ?_
    refine VR_cv0 d_Mod_writeBeginning_22 c_Mod_153 (Mod_writeNumbers hA (wrt_len 1 (wrt_len 1 hn)) (by omega)) ⟨by decide, by decide⟩ rfl (Nat.le_of_ble_eq_true rfl) ?_
    refine V_ar_n d_Mod_writeBeginning_25 rfl ?_
    refine V_iconst (v := 0) d_Mod_writeBeginning_26 (by decide) ?_
    refine V_iconst (v := nI 1) d_Mod_writeBeginning_27 (by decide) ?_
    refine VR_cv2 d_Mod_writeBeginning_28 c_Mod_149 (Mod_write hA _ (wrt_len 4 (wrt_len 4 (wrt_len 4 (wrt_len 1 (wrt_len 1 hn))))) (by decide) (by omega)) ⟨by decide, by decide⟩ rfl (Nat.le_of_ble_eq_true rfl) ?_
    exact V_return d_Mod_writeBeginning_31 rfl ⟨rfl, by rw [if_pos rfl]; rfl⟩
set_option maxRecDepth 100000 in
set_option maxHeartbeats 4000000 in
theorem Mod_writeFont {l : Launch} {D : va_G} {ac : Nat → ClassId} {o : Nat} {ad : Nat → Nat} {r : RS} (hA : rAD o ad) {n k : Nat} (hn : gF r 18 = nI n) (hb : n + 18 ≤ 320000) (hk : k < 32) : RCv l D ac o ad t_Mod_writeFont [.int (nI k)] r (wl r n (fonl r k)) := fun M0 => by
  refine Ct_of (by decide) (Nat.le_of_ble_eq_true rfl) ?_
  refine V_ar_n d_Mod_writeFont_0 rfl ?_
  refine V_sipush (v := 243) d_Mod_writeFont_1 (by decide) ?_
  refine V_iconst (v := nI 1) d_Mod_writeFont_4 (by decide) ?_
  refine VR_cv2 d_Mod_writeFont_5 c_Mod_149 (Mod_write hA _ (hn) (by decide) (by omega)) ⟨by decide, by decide⟩ rfl (Nat.le_of_ble_eq_true rfl) ?_
  refine V_ar_n d_Mod_writeFont_8 rfl ?_
  refine V_iload_n d_Mod_writeFont_9 rfl ?_
  refine V_iconst (v := nI 1) d_Mod_writeFont_10 (by decide) ?_
  refine VR_cv2 d_Mod_writeFont_11 c_Mod_149 (Mod_write hA _ (wrt_len 1 hn) (by decide) (by omega)) ⟨by decide, by decide⟩ rfl (Nat.le_of_ble_eq_true rfl) ?_
  refine V_ar_n d_Mod_writeFont_14 rfl ?_
  refine V_iconst (v := 0) d_Mod_writeFont_15 (by decide) ?_
  refine V_iconst (v := nI 4) d_Mod_writeFont_16 (by decide) ?_
  refine VR_cv2 d_Mod_writeFont_17 c_Mod_149 (Mod_write hA _ (wrt_len 1 (wrt_len 1 hn)) (by decide) (by omega)) ⟨by decide, by decide⟩ rfl (Nat.le_of_ble_eq_true rfl) ?_
  refine V_ar_n d_Mod_writeFont_20 rfl ?_
  refine V_ar_n d_Mod_writeFont_21 rfl ?_
  refine VR_geta d_Mod_writeFont_22 f_Mod_41 (by decide) ?_
  refine V_iload_n d_Mod_writeFont_25 rfl ?_
  refine VR_iald hA d_Mod_writeFont_26 rfl (by omega) (by decide) ?_
  refine V_eqi (show _ = gB r 13 k from by rw [wrt_B (by decide), wrt_B (by decide), wrt_B (by decide)]) ?_
  refine V_iconst (v := nI 4) d_Mod_writeFont_27 (by decide) ?_
  refine VR_cv2 d_Mod_writeFont_28 c_Mod_149 (Mod_write hA _ (wrt_len 4 (wrt_len 1 (wrt_len 1 hn))) (by decide) (by omega)) ⟨by decide, by decide⟩ rfl (Nat.le_of_ble_eq_true rfl) ?_
  refine V_ar_n d_Mod_writeFont_31 rfl ?_
  refine V_ar_n d_Mod_writeFont_32 rfl ?_
  refine VR_geta d_Mod_writeFont_33 f_Mod_44 (by decide) ?_
  refine V_iload_n d_Mod_writeFont_36 rfl ?_
  refine VR_iald hA d_Mod_writeFont_37 rfl (by omega) (by decide) ?_
  refine V_eqi (show _ = gB r 14 k from by rw [wrt_B (by decide), wrt_B (by decide), wrt_B (by decide), wrt_B (by decide)]) ?_
  refine V_iconst (v := nI 4) d_Mod_writeFont_38 (by decide) ?_
  refine VR_cv2 d_Mod_writeFont_39 c_Mod_149 (Mod_write hA _ (wrt_len 4 (wrt_len 4 (wrt_len 1 (wrt_len 1 hn)))) (by decide) (by omega)) ⟨by decide, by decide⟩ rfl (Nat.le_of_ble_eq_true rfl) ?_
  refine V_ar_n d_Mod_writeFont_42 rfl ?_
  refine V_iconst (v := 0) d_Mod_writeFont_43 (by decide) ?_
  refine V_iconst (v := nI 1) d_Mod_writeFont_44 (by decide) ?_
  refine VR_cv2 d_Mod_writeFont_45 c_Mod_149 (Mod_write hA _ (wrt_len 4 (wrt_len 4 (wrt_len 4 (wrt_len 1 (wrt_len 1 hn))))) (by decide) (by omega)) ⟨by decide, by decide⟩ rfl (Nat.le_of_ble_eq_true rfl) ?_
  refine V_ar_n d_Mod_writeFont_48 rfl ?_
  refine V_iconst (v := 1) d_Mod_writeFont_49 (by decide) ?_
  refine V_iconst (v := nI 1) d_Mod_writeFont_50 (by decide) ?_
  refine VR_cv2 d_Mod_writeFont_51 c_Mod_149 (Mod_write hA _ (wrt_len 1 (wrt_len 4 (wrt_len 4 (wrt_len 4 (wrt_len 1 (wrt_len 1 hn)))))) (by decide) (by omega)) ⟨by decide, by decide⟩ rfl (Nat.le_of_ble_eq_true rfl) ?_
  refine V_ar_n d_Mod_writeFont_54 rfl ?_
  refine V_bipush (v := 65) d_Mod_writeFont_55 (by decide) ?_
  refine V_iload_n d_Mod_writeFont_57 rfl ?_
  refine V_bipush (v := 26) d_Mod_writeFont_58 (by decide) ?_
  refine V_irem d_Mod_writeFont_60 (by decide) ?_
  refine V_iadd d_Mod_writeFont_61 ?_
  refine V_iconst (v := nI 1) d_Mod_writeFont_62 (by decide) ?_
  refine VR_cv2 d_Mod_writeFont_63 c_Mod_149 (Mod_write hA _ (wrt_len 1 (wrt_len 1 (wrt_len 4 (wrt_len 4 (wrt_len 4 (wrt_len 1 (wrt_len 1 hn))))))) (by decide) (by omega)) ⟨by decide, by decide⟩ rfl (Nat.le_of_ble_eq_true rfl) ?_
  exact V_return d_Mod_writeFont_66 rfl ⟨rfl, rfl⟩
def szd (r : RS) (x : Int64) : RS := sF r 33 (if ¬ gF r 33 = 0 ∧ ¬ iszl x = 0 then 1 else 0)
theorem okz0 : narrow .boolean (.int 0) = .int 0 ∧ fits .boolean (.int 0) = true := by decide
theorem okz1 : narrow .boolean (.int 1) = .int 1 ∧ fits .boolean (.int 1) = true := by decide
set_option maxRecDepth 100000 in
set_option maxHeartbeats 4000000 in
theorem Mod_sized {l : Launch} {D : va_G} {ac : Nat → ClassId} {o : Nat} {ad : Nat → Nat} {r : RS} (x : Int64) : RCv l D ac o ad t_Mod_sized [.long x] r (szd r x) := fun M0 => by
  refine Ct_of (by decide) (Nat.le_of_ble_eq_true rfl) ?_
  refine V_ar_n d_Mod_sized_0 rfl ?_
  refine V_ar_n d_Mod_sized_1 rfl ?_
  refine VR_geti d_Mod_sized_2 f_Mod_156 (by decide) ?_
  refine V_if_eq 19 d_Mod_sized_5 (by decide) (fun h5 => ?_) (fun h5 => ?_)
  · refine V_iconst (v := 0) d_Mod_sized_19 (by decide) ?_
    refine VR_putz d_Mod_sized_20 f_Mod_156 (by decide) (okz0) ?_
    exact V_return d_Mod_sized_23 rfl ⟨rfl, by rw [szd, if_neg (fun z => z.1 h5)]⟩
  · refine V_lload_n d_Mod_sized_8 rfl ?_
    refine VS_ci1 d_Mod_sized_9 c_Mod_127 (Mod_isSizeLong x) ⟨by decide, by decide⟩ (Nat.le_of_ble_eq_true rfl) ?_
    refine V_if_eq 19 d_Mod_sized_12 (by decide) (fun h12 => ?_) (fun h12 => ?_)
    · refine V_iconst (v := 0) d_Mod_sized_19 (by decide) ?_
      refine VR_putz d_Mod_sized_20 f_Mod_156 (by decide) (okz0) ?_
      exact V_return d_Mod_sized_23 rfl ⟨rfl, by rw [szd, if_neg (fun z => z.2 h12)]⟩
    · refine V_iconst (v := 1) d_Mod_sized_15 (by decide) ?_
      refine V_goto 20 d_Mod_sized_16 (by decide) ?_
      refine VR_putz d_Mod_sized_20 f_Mod_156 (by decide) (okz1) ?_
      exact V_return d_Mod_sized_23 rfl ⟨rfl, by rw [szd, if_pos ⟨h5, h12⟩]⟩
def nby (x : Int32) : Nat := if ¬ x < -128 ∧ ¬ 128 ≤ x then 1 else if ¬ x < -32768 ∧ ¬ 32768 ≤ x then 2 else if ¬ x < -8388608 ∧ ¬ 8388608 ≤ x then 3 else 4
theorem nby_le (x : Int32) : 1 ≤ nby x ∧ nby x ≤ 4 := by
  unfold nby
  split
  · omega
  · split
    · omega
    · split <;> omega
set_option maxRecDepth 100000 in
set_option maxHeartbeats 4000000 in
theorem Mod_bytes {l : Launch} {D : va_G} {ac : Nat → ClassId} (x : Int32) : SCi l D ac t_Mod_bytes [.int x] (nI (nby x)) := fun M => by
  refine Ct_of (by decide) (Nat.le_of_ble_eq_true rfl) ?_
  refine V_iload_n d_Mod_bytes_0 rfl ?_
  refine V_bipush (v := (-128)) d_Mod_bytes_1 (by decide) ?_
  refine V_icmp_lt 17 d_Mod_bytes_3 (by decide) (fun h3 => ?_) (fun h3 => ?_)
  · refine V_iload_n d_Mod_bytes_17 rfl ?_
    refine V_sipush (v := (-32768)) d_Mod_bytes_18 (by decide) ?_
    refine V_icmp_lt 34 d_Mod_bytes_21 (by decide) (fun h21 => ?_) (fun h21 => ?_)
    · refine V_iload_n d_Mod_bytes_34 rfl ?_
      refine V_ldc d_Mod_bytes_35 k_Mod_171 ?_
      refine V_icmp_lt 50 d_Mod_bytes_37 (by decide) (fun h37 => ?_) (fun h37 => ?_)
      · refine V_iconst (v := nI 4) d_Mod_bytes_50 (by decide) ?_
        exact V_ireturn d_Mod_bytes_51 rfl ⟨by rw [nby, if_neg (fun z => z.1 h3), if_neg (fun z => z.1 h21), if_neg (fun z => z.1 h37)], rfl⟩
      · refine V_iload_n d_Mod_bytes_40 rfl ?_
        refine V_ldc d_Mod_bytes_41 k_Mod_172 ?_
        refine V_icmp_ge 50 d_Mod_bytes_43 (by decide) (fun h43 => ?_) (fun h43 => ?_)
        · refine V_iconst (v := nI 4) d_Mod_bytes_50 (by decide) ?_
          exact V_ireturn d_Mod_bytes_51 rfl ⟨by rw [nby, if_neg (fun z => z.1 h3), if_neg (fun z => z.1 h21), if_neg (fun z => z.2 h43)], rfl⟩
        · refine V_iconst (v := nI 3) d_Mod_bytes_46 (by decide) ?_
          refine V_goto 51 d_Mod_bytes_47 (by decide) ?_
          exact V_ireturn d_Mod_bytes_51 rfl ⟨by rw [nby, if_neg (fun z => z.1 h3), if_neg (fun z => z.1 h21), if_pos ⟨h37, h43⟩], rfl⟩
    · refine V_iload_n d_Mod_bytes_24 rfl ?_
      refine V_ldc d_Mod_bytes_25 k_Mod_170 ?_
      refine V_icmp_ge 34 d_Mod_bytes_27 (by decide) (fun h27 => ?_) (fun h27 => ?_)
      · refine V_iload_n d_Mod_bytes_34 rfl ?_
        refine V_ldc d_Mod_bytes_35 k_Mod_171 ?_
        refine V_icmp_lt 50 d_Mod_bytes_37 (by decide) (fun h37 => ?_) (fun h37 => ?_)
        · refine V_iconst (v := nI 4) d_Mod_bytes_50 (by decide) ?_
          exact V_ireturn d_Mod_bytes_51 rfl ⟨by rw [nby, if_neg (fun z => z.1 h3), if_neg (fun z => z.2 h27), if_neg (fun z => z.1 h37)], rfl⟩
        · refine V_iload_n d_Mod_bytes_40 rfl ?_
          refine V_ldc d_Mod_bytes_41 k_Mod_172 ?_
          refine V_icmp_ge 50 d_Mod_bytes_43 (by decide) (fun h43 => ?_) (fun h43 => ?_)
          · refine V_iconst (v := nI 4) d_Mod_bytes_50 (by decide) ?_
            exact V_ireturn d_Mod_bytes_51 rfl ⟨by rw [nby, if_neg (fun z => z.1 h3), if_neg (fun z => z.2 h27), if_neg (fun z => z.2 h43)], rfl⟩
          · refine V_iconst (v := nI 3) d_Mod_bytes_46 (by decide) ?_
            refine V_goto 51 d_Mod_bytes_47 (by decide) ?_
            exact V_ireturn d_Mod_bytes_51 rfl ⟨by rw [nby, if_neg (fun z => z.1 h3), if_neg (fun z => z.2 h27), if_pos ⟨h37, h43⟩], rfl⟩
      · refine V_iconst (v := nI 2) d_Mod_bytes_30 (by decide) ?_
        refine V_goto 51 d_Mod_bytes_31 (by decide) ?_
        exact V_ireturn d_Mod_bytes_51 rfl ⟨by rw [nby, if_neg (fun z => z.1 h3), if_pos ⟨h21, h27⟩], rfl⟩
  · refine V_iload_n d_Mod_bytes_6 rfl ?_
    refine V_sipush (v := 128) d_Mod_bytes_7 (by decide) ?_
    refine V_icmp_ge 17 d_Mod_bytes_10 (by decide) (fun h10 => ?_) (fun h10 => ?_)
    · refine V_iload_n d_Mod_bytes_17 rfl ?_
      refine V_sipush (v := (-32768)) d_Mod_bytes_18 (by decide) ?_
      refine V_icmp_lt 34 d_Mod_bytes_21 (by decide) (fun h21 => ?_) (fun h21 => ?_)
      · refine V_iload_n d_Mod_bytes_34 rfl ?_
        refine V_ldc d_Mod_bytes_35 k_Mod_171 ?_
        refine V_icmp_lt 50 d_Mod_bytes_37 (by decide) (fun h37 => ?_) (fun h37 => ?_)
        · refine V_iconst (v := nI 4) d_Mod_bytes_50 (by decide) ?_
          exact V_ireturn d_Mod_bytes_51 rfl ⟨by rw [nby, if_neg (fun z => z.2 h10), if_neg (fun z => z.1 h21), if_neg (fun z => z.1 h37)], rfl⟩
        · refine V_iload_n d_Mod_bytes_40 rfl ?_
          refine V_ldc d_Mod_bytes_41 k_Mod_172 ?_
          refine V_icmp_ge 50 d_Mod_bytes_43 (by decide) (fun h43 => ?_) (fun h43 => ?_)
          · refine V_iconst (v := nI 4) d_Mod_bytes_50 (by decide) ?_
            exact V_ireturn d_Mod_bytes_51 rfl ⟨by rw [nby, if_neg (fun z => z.2 h10), if_neg (fun z => z.1 h21), if_neg (fun z => z.2 h43)], rfl⟩
          · refine V_iconst (v := nI 3) d_Mod_bytes_46 (by decide) ?_
            refine V_goto 51 d_Mod_bytes_47 (by decide) ?_
            exact V_ireturn d_Mod_bytes_51 rfl ⟨by rw [nby, if_neg (fun z => z.2 h10), if_neg (fun z => z.1 h21), if_pos ⟨h37, h43⟩], rfl⟩
      · refine V_iload_n d_Mod_bytes_24 rfl ?_
        refine V_ldc d_Mod_bytes_25 k_Mod_170 ?_
        refine V_icmp_ge 34 d_Mod_bytes_27 (by decide) (fun h27 => ?_) (fun h27 => ?_)
        · refine V_iload_n d_Mod_bytes_34 rfl ?_
          refine V_ldc d_Mod_bytes_35 k_Mod_171 ?_
          refine V_icmp_lt 50 d_Mod_bytes_37 (by decide) (fun h37 => ?_) (fun h37 => ?_)
          · refine V_iconst (v := nI 4) d_Mod_bytes_50 (by decide) ?_
            exact V_ireturn d_Mod_bytes_51 rfl ⟨by rw [nby, if_neg (fun z => z.2 h10), if_neg (fun z => z.2 h27), if_neg (fun z => z.1 h37)], rfl⟩
          · refine V_iload_n d_Mod_bytes_40 rfl ?_
            refine V_ldc d_Mod_bytes_41 k_Mod_172 ?_
            refine V_icmp_ge 50 d_Mod_bytes_43 (by decide) (fun h43 => ?_) (fun h43 => ?_)
            · refine V_iconst (v := nI 4) d_Mod_bytes_50 (by decide) ?_
              exact V_ireturn d_Mod_bytes_51 rfl ⟨by rw [nby, if_neg (fun z => z.2 h10), if_neg (fun z => z.2 h27), if_neg (fun z => z.2 h43)], rfl⟩
            · refine V_iconst (v := nI 3) d_Mod_bytes_46 (by decide) ?_
              refine V_goto 51 d_Mod_bytes_47 (by decide) ?_
              exact V_ireturn d_Mod_bytes_51 rfl ⟨by rw [nby, if_neg (fun z => z.2 h10), if_neg (fun z => z.2 h27), if_pos ⟨h37, h43⟩], rfl⟩
        · refine V_iconst (v := nI 2) d_Mod_bytes_30 (by decide) ?_
          refine V_goto 51 d_Mod_bytes_31 (by decide) ?_
          exact V_ireturn d_Mod_bytes_51 rfl ⟨by rw [nby, if_neg (fun z => z.2 h10), if_pos ⟨h21, h27⟩], rfl⟩
    · refine V_iconst (v := nI 1) d_Mod_bytes_13 (by decide) ?_
      refine V_goto 51 d_Mod_bytes_14 (by decide) ?_
      exact V_ireturn d_Mod_bytes_51 rfl ⟨by rw [nby, if_pos ⟨h3, h10⟩], rfl⟩
