/-! finish -/
def fin1 (s : FS) : FS := if s.2 = 0 then wpl s begl else s
def fin2 (s : FS) : FS := wpl s [(248, 1), (gF s.1 21, 4), (25400000, 4), (473628672, 4), (1000, 4), (s.1.2.1.toInt32, 4), (gF s.1 23, 4), (gF s.1 24, 2), (gF s.1 20, 2)]
def finf : Nat → FS → FS
  | 0, s => s
  | m + 1, s => finf m (if gB s.1 15 m = 0 then s else wpl s (fonl s.1 m))
def fin3 (s : FS) (p : Nat) : FS := wpl s [(249, 1), (nI p, 4), (2, 1)]
def padn : Nat → FS → FS
  | 0, s => s
  | m + 1, s => padn m (wp s 223 1)
def pdc (n : Nat) : Nat := 4 + (4 - n % 4) % 4
def finz (s : FS) (p : Nat) : FS := padn (pdc (fin3 (finf 32 (fin2 s)) p).2) (fin3 (finf 32 (fin2 s)) p)
def fin (s : FS) : FS := finz (fin1 s) (fin1 s).2
theorem finf_ok : ∀ (m : Nat) {s : FS}, okf s → okf (finf m s) ∧ s.2 ≤ (finf m s).2 ∧ (finf m s).2 ≤ s.2 + 18 * m := by
  intro m
  induction m with
  | zero => intro s h; exact ⟨h, by simp [finf], by simp [finf]⟩
  | succ m ih =>
    intro s h
    have h1 : okf (if gB s.1 15 m = 0 then s else wpl s (fonl s.1 m)) ∧ s.2 ≤ (if gB s.1 15 m = 0 then s else wpl s (fonl s.1 m)).2 ∧ (if gB s.1 15 m = 0 then s else wpl s (fonl s.1 m)).2 ≤ s.2 + 18 := by
      split
      · exact ⟨h, by omega, by omega⟩
      · refine ⟨wpl_ok h _, ?_, ?_⟩ <;> rw [wpl_2] <;> simp [fonl, tot]
    have h2 := ih h1.1
    exact ⟨h2.1, Nat.le_trans h1.2.1 h2.2.1, by have := h2.2.2; have := h1.2.2; show (finf m _).2 ≤ _; omega⟩
set_option maxRecDepth 100000 in
set_option maxHeartbeats 4000000 in
theorem Mod_finish_141 {l : Launch} {D : va_G} {ac : Nat → ClassId} {o : Nat} {ad : Nat → Nat} {M0 : MP} (hA : rAD o ad) {p L : Nat} (hL : L + 8 ≤ 320000) : ∀ (m j : Nat) (s : FS), j + m = pdc L → s.2 = L + j → okf s → V l D (tyl ac) t_Mod_finish 0 0 141 [(2, .int (nI j)), (0, .ref o), (1, .int (nI p))] [] (rM ac o ad (s.1) M0) (fun rv M' => rv = some (.int (nI (padn m s).2)) ∧ M' = rM ac o ad (sF (padn m s).1 19 1) M0) := by
  intro m
  induction m with
  | zero =>
    intro j s h1 h2 hs
    have hm8 : pdc L ≤ 7 := by unfold pdc; omega
    refine V_iload_n d_Mod_finish_141 rfl ?_
    refine V_iconst (v := nI 4) d_Mod_finish_142 (by decide) ?_
    refine V_icmp_lt 155 d_Mod_finish_143 (by decide) (fun h143 => ?_) (fun h143 => ?_)
    · exact absurd h143 (nI_nlt (by unfold pdc at h1; omega) (by unfold pdc at h1; omega))
    · refine V_ar_n d_Mod_finish_146 rfl ?_
      refine VR_geti d_Mod_finish_147 f_Mod_145 (by decide) ?_
      refine V_eqi (show _ = nI s.2 from hs) ?_
      refine V_iconst (v := nI 4) d_Mod_finish_150 (by decide) ?_
      refine V_irem d_Mod_finish_151 (by decide) ?_
      refine V_eqi (pk_rem (by omega) (by decide) (by decide)) ?_
      refine V_if_eq 169 d_Mod_finish_152 (by decide) (fun h152 => ?_) (fun h152 => ?_)
      · refine V_ar_n d_Mod_finish_169 rfl ?_
        refine V_iconst (v := 1) d_Mod_finish_170 (by decide) ?_
        refine VR_putz d_Mod_finish_171 f_Mod_204 (by decide) (okz1) ?_
        refine V_ar_n d_Mod_finish_174 rfl ?_
        refine VR_geti d_Mod_finish_175 f_Mod_145 (by decide) ?_
        refine V_eqi (show _ = nI s.2 from hs) ?_
        exact V_ireturn d_Mod_finish_178 rfl ⟨rfl, rfl⟩
      · have h0 : s.2 % 4 = 0 := by unfold pdc at h1; omega
        exact absurd (by rw [h0]; rfl) h152
  | succ m ih =>
    intro j s h1 h2 hs
    have hm8 : pdc L ≤ 7 := by unfold pdc; omega
    refine V_iload_n d_Mod_finish_141 rfl ?_
    refine V_iconst (v := nI 4) d_Mod_finish_142 (by decide) ?_
    refine V_icmp_lt 155 d_Mod_finish_143 (by decide) (fun h143 => ?_) (fun h143 => ?_)
    · refine V_ar_n d_Mod_finish_155 rfl ?_
      refine V_sipush (v := 223) d_Mod_finish_156 (by decide) ?_
      refine V_iconst (v := nI 1) d_Mod_finish_159 (by decide) ?_
      refine VR_cv2 d_Mod_finish_160 c_Mod_149 (Mod_write hA _ (hs) (by decide) (by omega)) ⟨by decide, by decide⟩ rfl (Nat.le_of_ble_eq_true rfl) ?_
      refine V_iinc (v := nI (j + 1)) (lv' := [(2, .int (nI (j + 1))), (0, .ref o), (1, .int (nI p))]) 0 d_Mod_finish_163 rfl (nI_1 j) (by decide) rfl ?_
      refine V_goto 141 d_Mod_finish_166 (by decide) ?_
      exact ih (j + 1) (wp s 223 1) (by omega) (show s.2 + 1 = L + (j + 1) by omega) (wp_ok hs _ 1)
    · have hj : 4 ≤ j := by
        rcases Nat.lt_or_ge j 4 with z | z
        · exact absurd (nI_lt z (by decide)) h143
        · exact z
      refine V_ar_n d_Mod_finish_146 rfl ?_
      refine VR_geti d_Mod_finish_147 f_Mod_145 (by decide) ?_
      refine V_eqi (show _ = nI s.2 from hs) ?_
      refine V_iconst (v := nI 4) d_Mod_finish_150 (by decide) ?_
      refine V_irem d_Mod_finish_151 (by decide) ?_
      refine V_eqi (pk_rem (by omega) (by decide) (by decide)) ?_
      refine V_if_eq 169 d_Mod_finish_152 (by decide) (fun h152 => ?_) (fun h152 => ?_)
      · have h0 : s.2 % 4 = 0 := (nI_eq (by omega) (by decide)).mp h152
        unfold pdc at h1
        omega
      · refine V_ar_n d_Mod_finish_155 rfl ?_
        refine V_sipush (v := 223) d_Mod_finish_156 (by decide) ?_
        refine V_iconst (v := nI 1) d_Mod_finish_159 (by decide) ?_
        refine VR_cv2 d_Mod_finish_160 c_Mod_149 (Mod_write hA _ (hs) (by decide) (by omega)) ⟨by decide, by decide⟩ rfl (Nat.le_of_ble_eq_true rfl) ?_
        refine V_iinc (v := nI (j + 1)) (lv' := [(2, .int (nI (j + 1))), (0, .ref o), (1, .int (nI p))]) 0 d_Mod_finish_163 rfl (nI_1 j) (by decide) rfl ?_
        refine V_goto 141 d_Mod_finish_166 (by decide) ?_
        exact ih (j + 1) (wp s 223 1) (by omega) (show s.2 + 1 = L + (j + 1) by omega) (wp_ok hs _ 1)
set_option maxRecDepth 100000 in
set_option maxHeartbeats 4000000 in
theorem Mod_finish_95 {l : Launch} {D : va_G} {ac : Nat → ClassId} {o : Nat} {ad : Nat → Nat} {M0 : MP} {Q : Option Value → MP → Prop} (hA : rAD o ad) {p : Nat} : ∀ (m : Nat) (s : FS), m ≤ 32 → okf s → s.2 + 18 * m ≤ 320000 → V l D (tyl ac) t_Mod_finish 0 0 119 [(2, .int (nI 0 - 1)), (1, .int (nI p)), (0, .ref o)] [] (rM ac o ad ((finf m s).1) M0) Q → V l D (tyl ac) t_Mod_finish 0 0 95 [(2, .int (nI m - 1)), (1, .int (nI p)), (0, .ref o)] [] (rM ac o ad (s.1) M0) Q := by
  intro m
  induction m with
  | zero =>
    intro s hm hs hb hK
    refine V_iload_n d_Mod_finish_95 rfl ?_
    refine V_if_lt 119 d_Mod_finish_96 (by decide) (fun h96 => ?_) (fun h96 => ?_)
    · exact hK
    · exact absurd (by decide) h96
  | succ m ih =>
    intro s hm hs hb hK
    rw [nI_pred m]
    refine V_iload_n d_Mod_finish_95 rfl ?_
    refine V_if_lt 119 d_Mod_finish_96 (by decide) (fun h96 => ?_) (fun h96 => ?_)
    · exact absurd h96 (nI_pos (by omega))
    · refine V_ar_n d_Mod_finish_99 rfl ?_
      refine VR_geta d_Mod_finish_100 f_Mod_47 (by decide) ?_
      refine V_iload_n d_Mod_finish_103 rfl ?_
      refine VR_zald hA d_Mod_finish_104 rfl (by omega) (by decide) ?_
      refine V_if_eq 113 d_Mod_finish_105 (by decide) (fun h105 => ?_) (fun h105 => ?_)
      · refine V_iinc (v := nI m - 1) (lv' := [(2, .int (nI m - 1)), (1, .int (nI p)), (0, .ref o)]) 0 d_Mod_finish_113 rfl (sub_ad _ (by decide)) (by decide) rfl ?_
        refine V_goto 95 d_Mod_finish_116 (by decide) ?_
        exact ih s (by omega) hs (by omega) (by rw [finf, if_pos h105] at hK; exact hK)
      · refine V_ar_n d_Mod_finish_108 rfl ?_
        refine V_iload_n d_Mod_finish_109 rfl ?_
        refine VR_cv1 d_Mod_finish_110 c_Mod_179 (Mod_writeFont hA hs (by omega) (by omega)) ⟨by decide, by decide⟩ rfl (Nat.le_of_ble_eq_true rfl) ?_
        refine V_iinc (v := nI m - 1) (lv' := [(2, .int (nI m - 1)), (1, .int (nI p)), (0, .ref o)]) 0 d_Mod_finish_113 rfl (sub_ad _ (by decide)) (by decide) rfl ?_
        refine V_goto 95 d_Mod_finish_116 (by decide) ?_
        rw [← wpl_wl]
        exact ih (wpl s (fonl s.1 m)) (by omega) (wpl_ok hs _) (by rw [wpl_2]; simp only [fonl, tot, List.map, List.sum_cons, List.sum_nil]; omega) (by rw [finf, if_neg h105] at hK; exact hK)
set_option maxRecDepth 100000 in
set_option maxHeartbeats 4000000 in
theorem Mod_finish_119 {l : Launch} {D : va_G} {ac : Nat → ClassId} {o : Nat} {ad : Nat → Nat} {s : FS} {M0 : MP} (hA : rAD o ad) {p : Nat} (hs : okf s) (hb : s.2 + 20 ≤ 320000) : V l D (tyl ac) t_Mod_finish 0 0 119 [(2, .int (nI 0 - 1)), (1, .int (nI p)), (0, .ref o)] [] (rM ac o ad (s.1) M0) (fun rv M' => rv = some (.int (nI (padn (pdc (fin3 s p).2) (fin3 s p)).2)) ∧ M' = rM ac o ad (sF (padn (pdc (fin3 s p).2) (fin3 s p)).1 19 1) M0) := by
  refine V_ar_n d_Mod_finish_119 rfl ?_
  refine V_sipush (v := 249) d_Mod_finish_120 (by decide) ?_
  refine V_iconst (v := nI 1) d_Mod_finish_123 (by decide) ?_
  refine VR_cv2 d_Mod_finish_124 c_Mod_149 (Mod_write hA _ (hs) (by decide) (by omega)) ⟨by decide, by decide⟩ rfl (Nat.le_of_ble_eq_true rfl) ?_
  refine V_ar_n d_Mod_finish_127 rfl ?_
  refine V_iload_n d_Mod_finish_128 rfl ?_
  refine V_iconst (v := nI 4) d_Mod_finish_129 (by decide) ?_
  refine VR_cv2 d_Mod_finish_130 c_Mod_149 (Mod_write hA _ (wrt_len 1 hs) (by decide) (by omega)) ⟨by decide, by decide⟩ rfl (Nat.le_of_ble_eq_true rfl) ?_
  refine V_ar_n d_Mod_finish_133 rfl ?_
  refine V_iconst (v := 2) d_Mod_finish_134 (by decide) ?_
  refine V_iconst (v := nI 1) d_Mod_finish_135 (by decide) ?_
  refine VR_cv2 d_Mod_finish_136 c_Mod_149 (Mod_write hA _ (wrt_len 4 (wrt_len 1 hs)) (by decide) (by omega)) ⟨by decide, by decide⟩ rfl (Nat.le_of_ble_eq_true rfl) ?_
  refine V_iconst (v := nI 0) d_Mod_finish_139 (by decide) ?_
  refine V_istore_n (lv' := [(2, .int (nI 0)), (1, .int (nI p)), (0, .ref o)]) d_Mod_finish_140 (by decide) rfl ?_
  exact V_lv [0, 2, 1] rfl (Mod_finish_141 hA (show (fin3 s p).2 + 8 ≤ 320000 from by show s.2 + 1 + 4 + 1 + 8 ≤ 320000; omega) (pdc (fin3 s p).2) 0 (fin3 s p) (by omega) rfl (wpl_ok hs _))
set_option maxRecDepth 100000 in
set_option maxHeartbeats 4000000 in
theorem Mod_finish_29 {l : Launch} {D : va_G} {ac : Nat → ClassId} {o : Nat} {ad : Nat → Nat} {s : FS} {M0 : MP} (hA : rAD o ad) (hs : okf s) (hb : s.2 ≤ 310000) : V l D (tyl ac) t_Mod_finish 0 0 29 [(0, .ref o)] [] (rM ac o ad (s.1) M0) (fun rv M' => rv = some (.int (nI (finz s s.2).2)) ∧ M' = rM ac o ad (sF (finz s s.2).1 19 1) M0) := by
  refine V_ar_n d_Mod_finish_29 rfl ?_
  refine VR_geti d_Mod_finish_30 f_Mod_145 (by decide) ?_
  refine V_eqi (show _ = nI s.2 from hs) ?_
  refine V_istore_n (lv' := [(1, .int (nI s.2)), (0, .ref o)]) d_Mod_finish_33 (by decide) rfl ?_
  refine V_ar_n d_Mod_finish_34 rfl ?_
  refine V_sipush (v := 248) d_Mod_finish_35 (by decide) ?_
  refine V_iconst (v := nI 1) d_Mod_finish_38 (by decide) ?_
  refine VR_cv2 d_Mod_finish_39 c_Mod_149 (Mod_write hA _ (hs) (by decide) (by omega)) ⟨by decide, by decide⟩ rfl (Nat.le_of_ble_eq_true rfl) ?_
  refine V_ar_n d_Mod_finish_42 rfl ?_
  refine V_ar_n d_Mod_finish_43 rfl ?_
  refine VR_geti d_Mod_finish_44 f_Mod_58 (by decide) ?_
  refine V_eqi (show _ = gF s.1 21 from by simp only [wl, nums, wrt_F (k := 21) (by decide)]) ?_
  refine V_iconst (v := nI 4) d_Mod_finish_47 (by decide) ?_
  refine VR_cv2 d_Mod_finish_48 c_Mod_149 (Mod_write hA _ (wrt_len 1 hs) (by decide) (by omega)) ⟨by decide, by decide⟩ rfl (Nat.le_of_ble_eq_true rfl) ?_
  refine V_ar_n d_Mod_finish_51 rfl ?_
  refine VR_cv0 d_Mod_finish_52 c_Mod_153 (Mod_writeNumbers hA (wrt_len 4 (wrt_len 1 hs)) (by omega)) ⟨by decide, by decide⟩ rfl (Nat.le_of_ble_eq_true rfl) ?_
  refine V_ar_n d_Mod_finish_55 rfl ?_
  refine V_ar_n d_Mod_finish_56 rfl ?_
  refine VR_getT d_Mod_finish_57 f_Mod_220 ?_
  refine V_eql (show _ = s.1.2.1 from by simp only [wl, nums, wrt_T]) ?_
  refine V_l2i d_Mod_finish_60 ?_
  refine V_iconst (v := nI 4) d_Mod_finish_61 (by decide) ?_
  refine VR_cv2 d_Mod_finish_62 c_Mod_149 (Mod_write hA _ (wrt_len 4 (wrt_len 4 (wrt_len 4 (wrt_len 4 (wrt_len 1 hs))))) (by decide) (by omega)) ⟨by decide, by decide⟩ rfl (Nat.le_of_ble_eq_true rfl) ?_
  refine V_ar_n d_Mod_finish_65 rfl ?_
  refine V_ar_n d_Mod_finish_66 rfl ?_
  refine VR_geti d_Mod_finish_67 f_Mod_224 (by decide) ?_
  refine V_eqi (show _ = gF s.1 23 from by simp only [wl, nums, wrt_F (k := 23) (by decide)]) ?_
  refine V_iconst (v := nI 4) d_Mod_finish_70 (by decide) ?_
  refine VR_cv2 d_Mod_finish_71 c_Mod_149 (Mod_write hA _ (wrt_len 4 (wrt_len 4 (wrt_len 4 (wrt_len 4 (wrt_len 4 (wrt_len 1 hs)))))) (by decide) (by omega)) ⟨by decide, by decide⟩ rfl (Nat.le_of_ble_eq_true rfl) ?_
  refine V_ar_n d_Mod_finish_74 rfl ?_
  refine V_ar_n d_Mod_finish_75 rfl ?_
  refine VR_geti d_Mod_finish_76 f_Mod_191 (by decide) ?_
  refine V_eqi (show _ = gF s.1 24 from by simp only [wl, nums, wrt_F (k := 24) (by decide)]) ?_
  refine V_iconst (v := nI 2) d_Mod_finish_79 (by decide) ?_
  refine VR_cv2 d_Mod_finish_80 c_Mod_149 (Mod_write hA _ (wrt_len 4 (wrt_len 4 (wrt_len 4 (wrt_len 4 (wrt_len 4 (wrt_len 4 (wrt_len 1 hs))))))) (by decide) (by omega)) ⟨by decide, by decide⟩ rfl (Nat.le_of_ble_eq_true rfl) ?_
  refine V_ar_n d_Mod_finish_83 rfl ?_
  refine V_ar_n d_Mod_finish_84 rfl ?_
  refine VR_geti d_Mod_finish_85 f_Mod_214 (by decide) ?_
  refine V_eqi (show _ = gF s.1 20 from by simp only [wl, nums, wrt_F (k := 20) (by decide)]) ?_
  refine V_iconst (v := nI 2) d_Mod_finish_88 (by decide) ?_
  refine VR_cv2 d_Mod_finish_89 c_Mod_149 (Mod_write hA _ (wrt_len 2 (wrt_len 4 (wrt_len 4 (wrt_len 4 (wrt_len 4 (wrt_len 4 (wrt_len 4 (wrt_len 1 hs)))))))) (by decide) (by omega)) ⟨by decide, by decide⟩ rfl (Nat.le_of_ble_eq_true rfl) ?_
  refine V_bipush (v := nI 32 - 1) d_Mod_finish_92 (by rfl) ?_
  refine V_istore_n (lv' := [(2, .int (nI 32 - 1)), (1, .int (nI s.2)), (0, .ref o)]) d_Mod_finish_94 (by decide) rfl ?_
  have hf := finf_ok 32 (wpl_ok hs [(248, 1), (gF s.1 21, 4), (25400000, 4), (473628672, 4), (1000, 4), (s.1.2.1.toInt32, 4), (gF s.1 23, 4), (gF s.1 24, 2), (gF s.1 20, 2)])
  have e2 : (fin2 s).2 = s.2 + 29 := by unfold fin2; rw [wpl_2]; simp [tot]
  refine Mod_finish_95 hA 32 (fin2 s) (by decide) (wpl_ok hs _) (by omega) ?_
  exact Mod_finish_119 hA hf.1 (by have h9 := hf.2.2; have h8 : (finf 32 (fin2 s)).2 ≤ (fin2 s).2 + 18 * 32 := h9; show (finf 32 (fin2 s)).2 + 20 ≤ 320000; omega)
set_option maxRecDepth 100000 in
set_option maxHeartbeats 4000000 in
theorem Mod_finish {l : Launch} {D : va_G} {ac : Nat → ClassId} {o : Nat} {ad : Nat → Nat} {r : RS} (hA : rAD o ad) {n : Nat} (hn : gF r 18 = nI n) (hb : n ≤ 300000) : RCi l D ac o ad t_Mod_finish [] r (if gF r 19 = 0 then nI (fin (sF r 0 0, n)).2 else 0) (if gF r 19 = 0 then sF (fin (sF r 0 0, n)).1 19 1 else sF r 0 1) := fun M0 => by
  refine Ct_of (by decide) (Nat.le_of_ble_eq_true rfl) ?_
  refine V_ar_n d_Mod_finish_0 rfl ?_
  refine V_ar_n d_Mod_finish_1 rfl ?_
  refine VR_geti d_Mod_finish_2 f_Mod_204 (by decide) ?_
  refine V_if_eq 12 d_Mod_finish_5 (by decide) (fun h5 => ?_) (fun h5 => ?_)
  · refine V_iconst (v := 0) d_Mod_finish_12 (by decide) ?_
    refine VR_puti d_Mod_finish_13 f_Mod_81 (by decide) ?_
    refine V_ar_n d_Mod_finish_16 rfl ?_
    refine VR_geti d_Mod_finish_17 f_Mod_204 (by decide) ?_
    refine V_if_eq 25 d_Mod_finish_20 (by decide) (fun h20 => ?_) (fun h20 => ?_)
    · refine V_ar_n d_Mod_finish_25 rfl ?_
      refine VR_cv0 d_Mod_finish_26 c_Mod_211 (Mod_writeBeginning hA hn (by omega)) ⟨by decide, by decide⟩ rfl (Nat.le_of_ble_eq_true rfl) ?_
      have e1 : (fin1 (sF r 0 0, n)).1 = if n = 0 then wl (sF r 0 0) 0 begl else sF r 0 0 := by
        unfold fin1
        by_cases h0 : n = 0
        · subst h0; rw [if_pos rfl, if_pos rfl]; exact wpl_wl _ _
        · rw [if_neg h0, if_neg h0]
      have o1 : okf (fin1 (sF r 0 0, n)) ∧ (fin1 (sF r 0 0, n)).2 ≤ n + 15 := by
        unfold fin1
        split
        · exact ⟨wpl_ok hn _, by rw [wpl_2]; simp [begl, tot]⟩
        · exact ⟨hn, by simp⟩
      rw [← e1, if_pos h5, if_pos h5]
      exact Mod_finish_29 hA o1.1 (by omega)
    · exact absurd h5 h20
  · refine V_iconst (v := 1) d_Mod_finish_8 (by decide) ?_
    refine V_goto 13 d_Mod_finish_9 (by decide) ?_
    refine VR_puti d_Mod_finish_13 f_Mod_81 (by decide) ?_
    refine V_ar_n d_Mod_finish_16 rfl ?_
    refine VR_geti d_Mod_finish_17 f_Mod_204 (by decide) ?_
    refine V_if_eq 25 d_Mod_finish_20 (by decide) (fun h20 => ?_) (fun h20 => ?_)
    · exact absurd h20 h5
    · refine V_iconst (v := 0) d_Mod_finish_23 (by decide) ?_
      exact V_ireturn d_Mod_finish_24 rfl ⟨by rw [if_neg h5], by rw [if_neg h5]⟩
