/-! writeAll -/
def wh0 (s : FS) : Nat := (gB s.1 31 6).toNatClampNeg
def wh1 (s : FS) : Nat := (gB s.1 31 7).toNatClampNeg
def nwk (s : FS) : Prop := gB s.1 31 6 = nI (wh0 s) ∧ wh0 s ≤ 1 ∧ gB s.1 31 7 = nI (wh1 s) ∧ wh1 s ≤ 1
def gts (s : FS) (j : Nat) : FS := gt s (gB s.1 25 j) (gB s.1 26 j) (wh0 s) (wh1 s)
def wpo (i : Nat) : Nat → FS → FS
  | 0, s => s
  | q + 1, s => if gB s.1 28 q ≤ nI i then wpo i q (lea s q) else s
theorem lea_ok {s : FS} (h : okf s) (q : Nat) : okf (lea s q) := wp_ok (s := (lck q 8 (sF s.1 27 (nI q)) 0, s.2)) ((lck_F q 18 8 _ 0).trans h) 142 1
theorem lea_B {k : Nat} (h1 : k ≠ 17) (h2 : k ≠ 31) (s : FS) (q : Nat) : gB (lea s q).1 k = gB s.1 k := (wrt_B h1 _ _ _ _).trans (lck_B q h2 8 _ 0)
theorem lea_27 (s : FS) (q : Nat) : gF (lea s q).1 27 = nI q := (wrt_F (by decide) _ _ _ _).trans (lck_F q 27 8 _ 0)
theorem wpo_ok (i : Nat) : ∀ (q : Nat) {s : FS}, okf s → okf (wpo i q s) ∧ s.2 ≤ (wpo i q s).2 ∧ (wpo i q s).2 ≤ s.2 + q := by
  intro q
  induction q with
  | zero => intro s h; exact ⟨h, by simp [wpo], by simp [wpo]⟩
  | succ q ih =>
    intro s h
    unfold wpo
    split
    · have h1 := ih (lea_ok h q)
      have e : (lea s q).2 = s.2 + 1 := rfl
      exact ⟨h1.1, by omega, by omega⟩
    · exact ⟨h, by omega, by omega⟩
theorem wpo_B (i : Nat) {k : Nat} (h1 : k ≠ 17) (h2 : k ≠ 31) : ∀ (q : Nat) (s : FS), gB (wpo i q s).1 k = gB s.1 k := by
  intro q
  induction q with
  | zero => intro s; rfl
  | succ q ih =>
    intro s
    unfold wpo
    split
    · exact (ih _).trans (lea_B h1 h2 s q)
    · rfl
theorem popq_B {r r' : RS} (h : gB r' 28 = gB r 28) (i m : Nat) : popq r' i m = popq r i m := by
  induction m with
  | zero => rfl
  | succ m ih => unfold popq; rw [ih, h]
theorem wpo_27 (i : Nat) : ∀ (q : Nat) (s : FS), gF s.1 27 = nI q → gF (wpo i q s).1 27 = nI (popq s.1 i q) := by
  intro q
  induction q with
  | zero => intro s h; exact h
  | succ q ih =>
    intro s h
    unfold wpo popq
    split
    · rw [ih (lea s q) (lea_27 s q), popq_B (lea_B (by decide) (by decide) s q)]
    · exact h
def kck (q : Nat) : Nat → RS → Nat → RS
  | 0, r, _ => r
  | m + 1, r, j => kck q m (w1 r 30 (8 * q + j) (gB r 31 j)) (j + 1)
theorem kck_F (q k : Nat) : ∀ (m : Nat) (r : RS) (j : Nat), gF (kck q m r j) k = gF r k := by
  intro m
  induction m with
  | zero => intro r j; rfl
  | succ m ih => intro r j; exact ih _ _
def wbx0 (r : RS) (q i : Nat) : RS := sF (w1 r 28 q (nI i + gB r 7 i)) 27 (nI (q + 1))
def wbx1 (r : RS) (q : Nat) : RS := sF r 24 (if nI (q + 1) ≤ gF r 24 then gF r 24 else nI (q + 1))
def wbxX (X : RS) (N q i : Nat) : FS := wp (wbx1 (wbx0 X q i) q, N) 141 1
def wbx (s : FS) (q i : Nat) : FS := wbxX (kck q 8 s.1 0) s.2 q i
def wch1 (s : FS) (i : Nat) : FS := (w1 (szd s.1 ((gB s.1 31 0).toInt64 + (gB s.1 2 i).toInt64)) 31 0 (gB s.1 31 0 + gB s.1 2 i), s.2)
def wch (s : FS) (i : Nat) : FS := wch1 (chw s (gB s.1 5 i).toNatClampNeg (gB s.1 6 i)) i
def wit (s : FS) (q i b : Nat) : FS := if ¬ isb s.1 i = 0 ∧ 1 < gB s.1 7 i then wbx (gts s (i - b)) q i else if gB s.1 1 i = 1 then wch (gts s (i - b)) i else if gB s.1 1 i = 2 then wru s i (bxo s.1 b i (i - b)) b (wh0 s) (wh1 s) else s
set_option maxRecDepth 100000 in
set_option maxHeartbeats 4000000 in
theorem WA_25 {l : Launch} {D : va_G} {ac : Nat → ClassId} {o : Nat} {ad : Nat → Nat} {M0 : MP} {Q : Option Value → MP → Prop} (hA : rAD o ad) {b n i : Nat} : ∀ (q : Nat) (s : FS), gF s.1 27 = nI q → q ≤ 101 → okf s → s.2 + q ≤ 320000 → V l D (tyl ac) t_Mod_writeAll 0 0 55 [(0, .ref o), (1, .int (nI b)), (2, .int (nI n)), (3, .int (nI b)), (4, .int (nI i))] [] (rM ac o ad ((wpo i q s).1) M0) Q → V l D (tyl ac) t_Mod_writeAll 0 0 25 [(0, .ref o), (1, .int (nI b)), (2, .int (nI n)), (3, .int (nI b)), (4, .int (nI i))] [] (rM ac o ad (s.1) M0) Q := by
  intro q
  induction q with
  | zero =>
    intro s hq hq1 hs hb hK
    refine V_ar_n d_Mod_writeAll_25 rfl ?_
    refine VR_geti d_Mod_writeAll_26 f_Mod_160 (by decide) ?_
    refine V_eqi (show _ = nI 0 from hq) ?_
    refine V_if_le 55 d_Mod_writeAll_29 (by decide) (fun h29 => ?_) (fun h29 => ?_)
    · exact hK
    · exact absurd (by decide) h29
  | succ q ih =>
    intro s hq hq1 hs hb hK
    refine V_ar_n d_Mod_writeAll_25 rfl ?_
    refine VR_geti d_Mod_writeAll_26 f_Mod_160 (by decide) ?_
    refine V_eqi (show _ = nI (q + 1) from hq) ?_
    refine V_if_le 55 d_Mod_writeAll_29 (by decide) (fun h29 => ?_) (fun h29 => ?_)
    · exact absurd h29 (nI_nle (by omega) (by omega))
    · refine V_ar_n d_Mod_writeAll_32 rfl ?_
      refine VR_geta d_Mod_writeAll_33 f_Mod_68 (by decide) ?_
      refine V_ar_n d_Mod_writeAll_36 rfl ?_
      refine VR_geti d_Mod_writeAll_37 f_Mod_160 (by decide) ?_
      refine V_eqi (show _ = nI (q + 1) from hq) ?_
      refine V_iconst (v := 1) d_Mod_writeAll_40 (by decide) ?_
      refine V_isub d_Mod_writeAll_41 ?_
      refine V_eqi (nI_pred q) ?_
      refine VR_iald hA d_Mod_writeAll_42 rfl (by omega) (by decide) ?_
      refine V_iload d_Mod_writeAll_43 rfl ?_
      refine V_icmp_gt 55 d_Mod_writeAll_45 (by decide) (fun h45 => ?_) (fun h45 => ?_)
      · rw [wpo, if_neg (Int32.not_le.mpr h45)] at hK
        exact hK
      · rw [wpo, if_pos (Int32.not_lt.mp h45)] at hK
        refine V_ar_n d_Mod_writeAll_48 rfl ?_
        refine VR_cv0 d_Mod_writeAll_49 c_Mod_188 (Mod_leave hA hq (by omega) hs (by omega)) ⟨by decide, by decide⟩ rfl (Nat.le_of_ble_eq_true rfl) ?_
        refine V_goto 25 d_Mod_writeAll_52 (by decide) ?_
        exact ih (lea s q) (lea_27 s q) (by omega) (lea_ok hs q) (show s.2 + 1 + q ≤ 320000 by omega) hK
set_option maxRecDepth 100000 in
set_option maxHeartbeats 4000000 in
theorem WA_304 {l : Launch} {D : va_G} {ac : Nat → ClassId} {o : Nat} {ad : Nat → Nat} {M0 : MP} {Q : Option Value → MP → Prop} {b n i : Nat} {s : FS} (hK : V l D (tyl ac) t_Mod_writeAll 0 0 10 [(0, .ref o), (1, .int (nI b)), (2, .int (nI n)), (3, .int (nI b)), (4, .int (nI (i + 1)))] [] (rM ac o ad (s.1) M0) Q) : V l D (tyl ac) t_Mod_writeAll 0 0 304 [(0, .ref o), (1, .int (nI b)), (2, .int (nI n)), (3, .int (nI b)), (4, .int (nI i))] [] (rM ac o ad (s.1) M0) Q := by
  refine V_iinc (v := nI (i + 1)) (lv' := [(4, .int (nI (i + 1))), (0, .ref o), (1, .int (nI b)), (2, .int (nI n)), (3, .int (nI b))]) 4 d_Mod_writeAll_304 rfl (nI_1 i) (by decide) rfl ?_
  refine V_goto 10 d_Mod_writeAll_307 (by decide) ?_
  refine V_lv [1, 2, 3, 4, 0] rfl ?_
  exact hK
set_option maxRecDepth 100000 in
set_option maxHeartbeats 4000000 in
theorem WA_100 {l : Launch} {D : va_G} {ac : Nat → ClassId} {o : Nat} {ad : Nat → Nat} {M0 : MP} {Q : Option Value → MP → Prop} (hA : rAD o ad) {b n i q : Nat} (hq2 : q ≤ 101) : ∀ (m j : Nat) (r : RS), j + m = 8 → gF r 27 = nI q → V l D (tyl ac) t_Mod_writeAll 0 0 135 [(0, .ref o), (1, .int (nI b)), (2, .int (nI n)), (3, .int (nI b)), (4, .int (nI i))] [] (rM ac o ad (kck q m r j) M0) Q → V l D (tyl ac) t_Mod_writeAll 0 0 100 [(0, .ref o), (1, .int (nI b)), (2, .int (nI n)), (3, .int (nI b)), (4, .int (nI i)), (5, .int (nI j))] [] (rM ac o ad (r) M0) Q := by
  intro m
  induction m with
  | zero =>
    intro j r h1 hq hK
    refine V_iload d_Mod_writeAll_100 rfl ?_
    refine V_bipush (v := nI 8) d_Mod_writeAll_102 (by decide) ?_
    refine V_icmp_ge 135 d_Mod_writeAll_104 (by decide) (fun h104 => ?_) (fun h104 => ?_)
    · refine V_lv [0, 1, 2, 3, 4] rfl ?_
      exact hK
    · exact absurd (nI_le (show 8 ≤ j by omega) (by omega)) h104
  | succ m ih =>
    intro j r h1 hq hK
    refine V_iload d_Mod_writeAll_100 rfl ?_
    refine V_bipush (v := nI 8) d_Mod_writeAll_102 (by decide) ?_
    refine V_icmp_ge 135 d_Mod_writeAll_104 (by decide) (fun h104 => ?_) (fun h104 => ?_)
    · exact absurd h104 (nI_ge (by omega) (by decide))
    · refine V_ar_n d_Mod_writeAll_107 rfl ?_
      refine VR_geta d_Mod_writeAll_108 f_Mod_75 (by decide) ?_
      refine V_bipush (v := nI 8) d_Mod_writeAll_111 (by decide) ?_
      refine V_ar_n d_Mod_writeAll_113 rfl ?_
      refine VR_geti d_Mod_writeAll_114 f_Mod_160 (by decide) ?_
      refine V_eqi (show _ = nI q from hq) ?_
      refine V_imul d_Mod_writeAll_117 ?_
      refine V_eqi (pk_mul 8 q) ?_
      refine V_iload d_Mod_writeAll_118 rfl ?_
      refine V_iadd d_Mod_writeAll_120 ?_
      refine V_eqi (nI_add _ _) ?_
      refine V_ar_n d_Mod_writeAll_121 rfl ?_
      refine VR_geta d_Mod_writeAll_122 f_Mod_78 (by decide) ?_
      refine V_iload d_Mod_writeAll_125 rfl ?_
      refine VR_iald hA d_Mod_writeAll_127 rfl (by omega) (by decide) ?_
      refine VR_iast hA d_Mod_writeAll_128 rfl (by omega) (by decide) ?_
      refine V_iinc (v := nI (j + 1)) (lv' := [(5, .int (nI (j + 1))), (0, .ref o), (1, .int (nI b)), (2, .int (nI n)), (3, .int (nI b)), (4, .int (nI i))]) 5 d_Mod_writeAll_129 rfl (nI_1 j) (by decide) rfl ?_
      refine V_goto 100 d_Mod_writeAll_132 (by decide) ?_
      refine V_lv [1, 2, 3, 4, 5, 0] rfl ?_
      exact ih (j + 1) _ (by omega) hq hK
set_option maxRecDepth 100000 in
set_option maxHeartbeats 4000000 in
theorem WA_164 {l : Launch} {D : va_G} {ac : Nat → ClassId} {o : Nat} {ad : Nat → Nat} {M0 : MP} {Q : Option Value → MP → Prop} (hA : rAD o ad) {b n i q : Nat} {s : FS} (hq : gF s.1 27 = nI (q + 1)) (hs : okf s) (hb : s.2 + 1 ≤ 320000) (hK : V l D (tyl ac) t_Mod_writeAll 0 0 10 [(0, .ref o), (1, .int (nI b)), (2, .int (nI n)), (3, .int (nI b)), (4, .int (nI (i + 1)))] [] (rM ac o ad ((wp (wbx1 s.1 q, s.2) 141 1).1) M0) Q) : V l D (tyl ac) t_Mod_writeAll 0 0 164 [(0, .ref o), (1, .int (nI b)), (2, .int (nI n)), (3, .int (nI b)), (4, .int (nI i))] [] (rM ac o ad (s.1) M0) Q := by
  refine V_ar_n d_Mod_writeAll_164 rfl ?_
  refine V_ar_n d_Mod_writeAll_165 rfl ?_
  refine VR_geti d_Mod_writeAll_166 f_Mod_160 (by decide) ?_
  refine V_eqi (show _ = nI (q + 1) from hq) ?_
  refine V_ar_n d_Mod_writeAll_169 rfl ?_
  refine VR_geti d_Mod_writeAll_170 f_Mod_191 (by decide) ?_
  refine V_icmp_le 183 d_Mod_writeAll_173 (by decide) (fun h173 => ?_) (fun h173 => ?_)
  · refine V_ar_n d_Mod_writeAll_183 rfl ?_
    refine VR_geti d_Mod_writeAll_184 f_Mod_191 (by decide) ?_
    refine V_eqi (show _ = (if nI (q + 1) ≤ gF s.1 24 then gF s.1 24 else nI (q + 1)) from (if_pos h173).symm) ?_
    refine VR_puti d_Mod_writeAll_187 f_Mod_191 (by decide) ?_
    refine V_ar_n d_Mod_writeAll_190 rfl ?_
    refine V_sipush (v := 141) d_Mod_writeAll_191 (by decide) ?_
    refine V_iconst (v := nI 1) d_Mod_writeAll_194 (by decide) ?_
    refine VR_cv2 d_Mod_writeAll_195 c_Mod_149 (Mod_write hA _ (hs) (by decide) (by omega)) ⟨by decide, by decide⟩ rfl (Nat.le_of_ble_eq_true rfl) ?_
    refine V_goto 304 d_Mod_writeAll_198 (by decide) ?_
    exact WA_304 (s := wp (wbx1 s.1 q, s.2) 141 1) hK
  · refine V_ar_n d_Mod_writeAll_176 rfl ?_
    refine VR_geti d_Mod_writeAll_177 f_Mod_160 (by decide) ?_
    refine V_eqi (show _ = nI (q + 1) from hq) ?_
    refine V_goto 187 d_Mod_writeAll_180 (by decide) ?_
    refine V_eqi (show _ = (if nI (q + 1) ≤ gF s.1 24 then gF s.1 24 else nI (q + 1)) from (if_neg h173).symm) ?_
    refine VR_puti d_Mod_writeAll_187 f_Mod_191 (by decide) ?_
    refine V_ar_n d_Mod_writeAll_190 rfl ?_
    refine V_sipush (v := 141) d_Mod_writeAll_191 (by decide) ?_
    refine V_iconst (v := nI 1) d_Mod_writeAll_194 (by decide) ?_
    refine VR_cv2 d_Mod_writeAll_195 c_Mod_149 (Mod_write hA _ (hs) (by decide) (by omega)) ⟨by decide, by decide⟩ rfl (Nat.le_of_ble_eq_true rfl) ?_
    refine V_goto 304 d_Mod_writeAll_198 (by decide) ?_
    exact WA_304 (s := wp (wbx1 s.1 q, s.2) 141 1) hK
set_option maxRecDepth 100000 in
set_option maxHeartbeats 4000000 in
theorem WA_135 {l : Launch} {D : va_G} {ac : Nat → ClassId} {o : Nat} {ad : Nat → Nat} {M0 : MP} {Q : Option Value → MP → Prop} (hA : rAD o ad) {b n i q N : Nat} {X : RS} (hi : i < 6200) (hq2 : q ≤ 101) (hk27 : gF X 27 = nI q) (hk18 : gF X 18 = nI N) (hb : N + 1 ≤ 320000) (hK : V l D (tyl ac) t_Mod_writeAll 0 0 10 [(0, .ref o), (1, .int (nI b)), (2, .int (nI n)), (3, .int (nI b)), (4, .int (nI (i + 1)))] [] (rM ac o ad ((wbxX X N q i).1) M0) Q) : V l D (tyl ac) t_Mod_writeAll 0 0 135 [(0, .ref o), (1, .int (nI b)), (2, .int (nI n)), (3, .int (nI b)), (4, .int (nI i))] [] (rM ac o ad (X) M0) Q := by
  refine V_ar_n d_Mod_writeAll_135 rfl ?_
  refine VR_geta d_Mod_writeAll_136 f_Mod_68 (by decide) ?_
  refine V_ar_n d_Mod_writeAll_139 rfl ?_
  refine VR_geti d_Mod_writeAll_140 f_Mod_160 (by decide) ?_
  refine V_eqi (show _ = nI q from hk27) ?_
  refine V_iload d_Mod_writeAll_143 rfl ?_
  refine V_ar_n d_Mod_writeAll_145 rfl ?_
  refine VR_geta d_Mod_writeAll_146 f_Mod_28 (by decide) ?_
  refine V_iload d_Mod_writeAll_149 rfl ?_
  refine VR_iald hA d_Mod_writeAll_151 rfl (by omega) (by decide) ?_
  refine V_iadd d_Mod_writeAll_152 ?_
  refine VR_iast hA d_Mod_writeAll_153 rfl (by omega) (by decide) ?_
  refine V_ar_n d_Mod_writeAll_154 rfl ?_
  refine V_dup d_Mod_writeAll_155 rfl ?_
  refine VR_geti d_Mod_writeAll_156 f_Mod_160 (by decide) ?_
  refine V_eqi (show _ = nI q from hk27) ?_
  refine V_iconst (v := 1) d_Mod_writeAll_159 (by decide) ?_
  refine V_iadd d_Mod_writeAll_160 ?_
  refine V_eqi (nI_1 q) ?_
  refine VR_puti d_Mod_writeAll_161 f_Mod_160 (by decide) ?_
  exact WA_164 (s := (wbx0 X q i, N)) hA rfl hk18 (show N + 1 ≤ 320000 by omega) hK
set_option maxRecDepth 100000 in
set_option maxHeartbeats 4000000 in
theorem WA_75a {l : Launch} {D : va_G} {ac : Nat → ClassId} {o : Nat} {ad : Nat → Nat} {M0 : MP} {Q : Option Value → MP → Prop} (hA : rAD o ad) {b n i q : Nat} {s : FS} (hi : i < 6200) (hbi : b ≤ i) (hib : i - b < 3100) (hq : gF s.1 27 = nI q) (hq2 : q ≤ 101) (hs : okf s) (hb : s.2 + 40 ≤ 320000) (hw : nwk s) (hK : V l D (tyl ac) t_Mod_writeAll 0 0 97 [(0, .ref o), (1, .int (nI b)), (2, .int (nI n)), (3, .int (nI b)), (4, .int (nI i))] [] (rM ac o ad ((gts s (i - b)).1) M0) Q) : V l D (tyl ac) t_Mod_writeAll 0 0 75 [(0, .ref o), (1, .int (nI b)), (2, .int (nI n)), (3, .int (nI b)), (4, .int (nI i))] [] (rM ac o ad (s.1) M0) Q := by
  refine V_ar_n d_Mod_writeAll_75 rfl ?_
  refine V_ar_n d_Mod_writeAll_76 rfl ?_
  refine VR_geta d_Mod_writeAll_77 f_Mod_62 (by decide) ?_
  refine V_iload d_Mod_writeAll_80 rfl ?_
  refine V_iload_n d_Mod_writeAll_82 rfl ?_
  refine V_isub d_Mod_writeAll_83 ?_
  refine V_eqi (pk_sub hbi) ?_
  refine VR_iald hA d_Mod_writeAll_84 rfl (by omega) (by decide) ?_
  refine V_ar_n d_Mod_writeAll_85 rfl ?_
  refine VR_geta d_Mod_writeAll_86 f_Mod_65 (by decide) ?_
  refine V_iload d_Mod_writeAll_89 rfl ?_
  refine V_iload_n d_Mod_writeAll_91 rfl ?_
  refine V_isub d_Mod_writeAll_92 ?_
  refine V_eqi (pk_sub hbi) ?_
  refine VR_iald hA d_Mod_writeAll_93 rfl (by omega) (by decide) ?_
  refine VR_cv2 d_Mod_writeAll_94 c_Mod_185 (Mod_goTo hA _ _ hs (by omega) hw.2.1 hw.2.2.2 hw.1 hw.2.2.1) ⟨by decide, by decide⟩ rfl (Nat.le_of_ble_eq_true rfl) ?_
  exact hK
set_option maxRecDepth 100000 in
set_option maxHeartbeats 4000000 in
theorem WA_97 {l : Launch} {D : va_G} {ac : Nat → ClassId} {o : Nat} {ad : Nat → Nat} {M0 : MP} {Q : Option Value → MP → Prop} (hA : rAD o ad) {b n i q : Nat} {s : FS} (hi : i < 6200) (hq : gF s.1 27 = nI q) (hq2 : q ≤ 101) (hs : okf s) (hb : s.2 + 1 ≤ 320000) (hK : V l D (tyl ac) t_Mod_writeAll 0 0 10 [(0, .ref o), (1, .int (nI b)), (2, .int (nI n)), (3, .int (nI b)), (4, .int (nI (i + 1)))] [] (rM ac o ad ((wbx s q i).1) M0) Q) : V l D (tyl ac) t_Mod_writeAll 0 0 97 [(0, .ref o), (1, .int (nI b)), (2, .int (nI n)), (3, .int (nI b)), (4, .int (nI i))] [] (rM ac o ad (s.1) M0) Q := by
  refine V_iconst (v := nI 0) d_Mod_writeAll_97 (by decide) ?_
  refine V_istore (lv' := [(5, .int (nI 0)), (0, .ref o), (1, .int (nI b)), (2, .int (nI n)), (3, .int (nI b)), (4, .int (nI i))]) d_Mod_writeAll_98 (by decide) rfl ?_
  refine V_lv [1, 2, 3, 4, 5, 0] rfl ?_
  refine WA_100 hA hq2 8 0 s.1 rfl hq ?_
  exact WA_135 hA hi hq2 ((kck_F q 27 8 s.1 0).trans hq) ((kck_F q 18 8 s.1 0).trans hs) hb hK
set_option maxRecDepth 100000 in
set_option maxHeartbeats 4000000 in
theorem WA_75 {l : Launch} {D : va_G} {ac : Nat → ClassId} {o : Nat} {ad : Nat → Nat} {M0 : MP} {Q : Option Value → MP → Prop} (hA : rAD o ad) {b n i q : Nat} {s : FS} (hi : i < 6200) (hbi : b ≤ i) (hib : i - b < 3100) (hq : gF s.1 27 = nI q) (hq2 : q ≤ 101) (hs : okf s) (hb : s.2 + 40 ≤ 320000) (hw : nwk s) (hK : V l D (tyl ac) t_Mod_writeAll 0 0 10 [(0, .ref o), (1, .int (nI b)), (2, .int (nI n)), (3, .int (nI b)), (4, .int (nI (i + 1)))] [] (rM ac o ad ((wbx (gts s (i - b)) q i).1) M0) Q) : V l D (tyl ac) t_Mod_writeAll 0 0 75 [(0, .ref o), (1, .int (nI b)), (2, .int (nI n)), (3, .int (nI b)), (4, .int (nI i))] [] (rM ac o ad (s.1) M0) Q := by
  have hg := gt_le s (gB s.1 25 (i - b)) (gB s.1 26 (i - b)) (wh0 s) (wh1 s)
  have hgo : okf (gts s (i - b)) := gt_ok hs (gB s.1 25 (i - b)) (gB s.1 26 (i - b)) (wh0 s) (wh1 s)
  have hg27 : gF (gts s (i - b)).1 27 = nI q := (gt_F (by decide) (by decide) s _ _ _ _).trans hq
  have hg2 : (gts s (i - b)).2 ≤ s.2 + 10 := hg.2
  refine WA_75a hA hi hbi hib hq hq2 hs hb hw ?_
  generalize gts s (i - b) = G at hK hgo hg27 hg2 ⊢
  exact WA_97 hA hi hg27 hq2 hgo (by omega) hK
set_option maxRecDepth 100000 in
set_option maxHeartbeats 4000000 in
theorem WA_212 {l : Launch} {D : va_G} {ac : Nat → ClassId} {o : Nat} {ad : Nat → Nat} {M0 : MP} {Q : Option Value → MP → Prop} (hA : rAD o ad) {b n i q f : Nat} {s : FS} (hi : i < 6200) (hbi : b ≤ i) (hib : i - b < 3100) (hq : gF s.1 27 = nI q) (hq2 : q ≤ 101) (hs : okf s) (hb : s.2 + 40 ≤ 320000) (hw : nwk s) (hf : gB s.1 5 i = nI f) (hf2 : f < 32) (hK : V l D (tyl ac) t_Mod_writeAll 0 0 10 [(0, .ref o), (1, .int (nI b)), (2, .int (nI n)), (3, .int (nI b)), (4, .int (nI (i + 1)))] [] (rM ac o ad ((wch (gts s (i - b)) i).1) M0) Q) : V l D (tyl ac) t_Mod_writeAll 0 0 212 [(0, .ref o), (1, .int (nI b)), (2, .int (nI n)), (3, .int (nI b)), (4, .int (nI i))] [] (rM ac o ad (s.1) M0) Q := by
  have hg := gt_le s (gB s.1 25 (i - b)) (gB s.1 26 (i - b)) (wh0 s) (wh1 s)
  have hgo : okf (gts s (i - b)) := gt_ok hs (gB s.1 25 (i - b)) (gB s.1 26 (i - b)) (wh0 s) (wh1 s)
  have hg2 : (gts s (i - b)).2 ≤ s.2 + 10 := hg.2
  have e5 : gB (gts s (i - b)).1 5 = gB s.1 5 := gt_B (by decide) (by decide) s _ _ _ _
  have ef : gB (gts s (i - b)).1 5 i = nI (gB (gts s (i - b)).1 5 i).toNatClampNeg := by rw [e5, hf, nI_clamp (by omega)]
  have ef2 : (gB (gts s (i - b)).1 5 i).toNatClampNeg < 32 := by rw [e5, hf, nI_clamp (by omega)]; exact hf2
  refine V_ar_n d_Mod_writeAll_212 rfl ?_
  refine V_ar_n d_Mod_writeAll_213 rfl ?_
  refine VR_geta d_Mod_writeAll_214 f_Mod_62 (by decide) ?_
  refine V_iload d_Mod_writeAll_217 rfl ?_
  refine V_iload_n d_Mod_writeAll_219 rfl ?_
  refine V_isub d_Mod_writeAll_220 ?_
  refine V_eqi (pk_sub hbi) ?_
  refine VR_iald hA d_Mod_writeAll_221 rfl (by omega) (by decide) ?_
  refine V_ar_n d_Mod_writeAll_222 rfl ?_
  refine VR_geta d_Mod_writeAll_223 f_Mod_65 (by decide) ?_
  refine V_iload d_Mod_writeAll_226 rfl ?_
  refine V_iload_n d_Mod_writeAll_228 rfl ?_
  refine V_isub d_Mod_writeAll_229 ?_
  refine V_eqi (pk_sub hbi) ?_
  refine VR_iald hA d_Mod_writeAll_230 rfl (by omega) (by decide) ?_
  refine VR_cv2 d_Mod_writeAll_231 c_Mod_185 (Mod_goTo hA _ _ hs (by omega) hw.2.1 hw.2.2.2 hw.1 hw.2.2.1) ⟨by decide, by decide⟩ rfl (Nat.le_of_ble_eq_true rfl) ?_
  refine V_ar_n d_Mod_writeAll_234 rfl ?_
  refine V_iload d_Mod_writeAll_235 rfl ?_
  refine VR_cv1 d_Mod_writeAll_237 c_Mod_194 (Mod_writeCharacter (s := gts s (i - b)) hA hi ef2 ef rfl hgo (by omega)) ⟨by decide, by decide⟩ rfl (Nat.le_of_ble_eq_true rfl) ?_
  refine V_ar_n d_Mod_writeAll_240 rfl ?_
  refine V_ar_n d_Mod_writeAll_241 rfl ?_
  refine VR_geta d_Mod_writeAll_242 f_Mod_78 (by decide) ?_
  refine V_iconst (v := nI 0) d_Mod_writeAll_245 (by decide) ?_
  refine VR_iald hA d_Mod_writeAll_246 rfl (by omega) (by decide) ?_
  refine V_i2l d_Mod_writeAll_247 ?_
  refine V_ar_n d_Mod_writeAll_248 rfl ?_
  refine VR_geta d_Mod_writeAll_249 f_Mod_13 (by decide) ?_
  refine V_iload d_Mod_writeAll_252 rfl ?_
  refine VR_iald hA d_Mod_writeAll_254 rfl (by omega) (by decide) ?_
  refine V_i2l d_Mod_writeAll_255 ?_
  refine V_ladd d_Mod_writeAll_256 ?_
  refine VR_cv1 d_Mod_writeAll_257 c_Mod_163 (Mod_sized _) ⟨by decide, by decide⟩ rfl (Nat.le_of_ble_eq_true rfl) ?_
  refine V_ar_n d_Mod_writeAll_260 rfl ?_
  refine VR_geta d_Mod_writeAll_261 f_Mod_78 (by decide) ?_
  refine V_iconst (v := nI 0) d_Mod_writeAll_264 (by decide) ?_
  refine V_dup2 d_Mod_writeAll_265 rfl rfl ?_
  refine VR_iald hA d_Mod_writeAll_266 rfl (by omega) (by decide) ?_
  refine V_ar_n d_Mod_writeAll_267 rfl ?_
  refine VR_geta d_Mod_writeAll_268 f_Mod_13 (by decide) ?_
  refine V_iload d_Mod_writeAll_271 rfl ?_
  refine VR_iald hA d_Mod_writeAll_273 rfl (by omega) (by decide) ?_
  refine V_iadd d_Mod_writeAll_274 ?_
  refine VR_iast hA d_Mod_writeAll_275 rfl (by omega) (by decide) ?_
  refine V_goto 304 d_Mod_writeAll_276 (by decide) ?_
  exact WA_304 (s := wch (gts s (i - b)) i) hK
set_option maxRecDepth 100000 in
set_option maxHeartbeats 4000000 in
theorem WA_55 {l : Launch} {D : va_G} {ac : Nat → ClassId} {o : Nat} {ad : Nat → Nat} {M0 : MP} {Q : Option Value → MP → Prop} (hA : rAD o ad) {b n i q : Nat} {s : FS} (hi : i < 6200) (hbi : b ≤ i) (hib : i - b < 3100) (hq : gF s.1 27 = nI q) (hq2 : q ≤ 101) (hs : okf s) (hb : s.2 + 40 ≤ 320000) (hw : nwk s) (hch : gB s.1 1 i = 1 → ∃ f, gB s.1 5 i = nI f ∧ f < 32) (hK : V l D (tyl ac) t_Mod_writeAll 0 0 10 [(0, .ref o), (1, .int (nI b)), (2, .int (nI n)), (3, .int (nI b)), (4, .int (nI (i + 1)))] [] (rM ac o ad ((wit s q i b).1) M0) Q) : V l D (tyl ac) t_Mod_writeAll 0 0 55 [(0, .ref o), (1, .int (nI b)), (2, .int (nI n)), (3, .int (nI b)), (4, .int (nI i))] [] (rM ac o ad (s.1) M0) Q := by
  refine V_ar_n d_Mod_writeAll_55 rfl ?_
  refine V_iload d_Mod_writeAll_56 rfl ?_
  refine VR_ci1 d_Mod_writeAll_58 c_Mod_116 (Mod_isBox hA hi) ⟨by decide, by decide⟩ rfl (Nat.le_of_ble_eq_true rfl) ?_
  refine V_if_eq 201 d_Mod_writeAll_61 (by decide) (fun h61 => ?_) (fun h61 => ?_)
  · have hnb : ¬ (¬ isb s.1 i = 0 ∧ 1 < gB s.1 7 i) := fun z => z.1 h61
    refine V_ar_n d_Mod_writeAll_201 rfl ?_
    refine VR_geta d_Mod_writeAll_202 f_Mod_7 (by decide) ?_
    refine V_iload d_Mod_writeAll_205 rfl ?_
    refine VR_iald hA d_Mod_writeAll_207 rfl (by omega) (by decide) ?_
    refine V_iconst (v := 1) d_Mod_writeAll_208 (by decide) ?_
    refine V_icmp_ne 279 d_Mod_writeAll_209 (by decide) (fun h209 => ?_) (fun h209 => ?_)
    · refine V_ar_n d_Mod_writeAll_279 rfl ?_
      refine VR_geta d_Mod_writeAll_280 f_Mod_7 (by decide) ?_
      refine V_iload d_Mod_writeAll_283 rfl ?_
      refine VR_iald hA d_Mod_writeAll_285 rfl (by omega) (by decide) ?_
      refine V_iconst (v := 2) d_Mod_writeAll_286 (by decide) ?_
      refine V_icmp_ne 304 d_Mod_writeAll_287 (by decide) (fun h287 => ?_) (fun h287 => ?_)
      · rw [wit, if_neg hnb, if_neg h209, if_neg h287] at hK
        exact WA_304 hK
      · rw [wit, if_neg hnb, if_neg h209, if_pos (Classical.not_not.mp h287)] at hK
        have hbo := bxo_le s.1 b i (i - b)
        refine V_ar_n d_Mod_writeAll_290 rfl ?_
        refine V_iload d_Mod_writeAll_291 rfl ?_
        refine V_ar_n d_Mod_writeAll_293 rfl ?_
        refine V_iload d_Mod_writeAll_294 rfl ?_
        refine V_iload_n d_Mod_writeAll_296 rfl ?_
        refine VR_ci2 d_Mod_writeAll_297 c_Mod_197 (Mod_boxOf hA hbi hi) ⟨by decide, by decide⟩ rfl (Nat.le_of_ble_eq_true rfl) ?_
        refine V_iload_n d_Mod_writeAll_300 rfl ?_
        refine VR_cv3 d_Mod_writeAll_301 c_Mod_200 (Mod_writeRule hA hi (by omega) hbi hib hs (by omega) hw.2.1 hw.2.2.2 hw.1 hw.2.2.1) ⟨by decide, by decide⟩ rfl (Nat.le_of_ble_eq_true rfl) ?_
        exact WA_304 (s := wru s i (bxo s.1 b i (i - b)) b (wh0 s) (wh1 s)) hK
    · rw [wit, if_neg hnb, if_pos (Classical.not_not.mp h209)] at hK
      obtain ⟨f, hf, hf2⟩ := hch (Classical.not_not.mp h209)
      exact WA_212 hA hi hbi hib hq hq2 hs hb hw hf hf2 hK
  · refine V_ar_n d_Mod_writeAll_64 rfl ?_
    refine VR_geta d_Mod_writeAll_65 f_Mod_28 (by decide) ?_
    refine V_iload d_Mod_writeAll_68 rfl ?_
    refine VR_iald hA d_Mod_writeAll_70 rfl (by omega) (by decide) ?_
    refine V_iconst (v := 1) d_Mod_writeAll_71 (by decide) ?_
    refine V_icmp_le 201 d_Mod_writeAll_72 (by decide) (fun h72 => ?_) (fun h72 => ?_)
    · have hnb : ¬ (¬ isb s.1 i = 0 ∧ 1 < gB s.1 7 i) := fun z => absurd h72 (Int32.not_le.mpr z.2)
      refine V_ar_n d_Mod_writeAll_201 rfl ?_
      refine VR_geta d_Mod_writeAll_202 f_Mod_7 (by decide) ?_
      refine V_iload d_Mod_writeAll_205 rfl ?_
      refine VR_iald hA d_Mod_writeAll_207 rfl (by omega) (by decide) ?_
      refine V_iconst (v := 1) d_Mod_writeAll_208 (by decide) ?_
      refine V_icmp_ne 279 d_Mod_writeAll_209 (by decide) (fun h209 => ?_) (fun h209 => ?_)
      · refine V_ar_n d_Mod_writeAll_279 rfl ?_
        refine VR_geta d_Mod_writeAll_280 f_Mod_7 (by decide) ?_
        refine V_iload d_Mod_writeAll_283 rfl ?_
        refine VR_iald hA d_Mod_writeAll_285 rfl (by omega) (by decide) ?_
        refine V_iconst (v := 2) d_Mod_writeAll_286 (by decide) ?_
        refine V_icmp_ne 304 d_Mod_writeAll_287 (by decide) (fun h287 => ?_) (fun h287 => ?_)
        · rw [wit, if_neg hnb, if_neg h209, if_neg h287] at hK
          exact WA_304 hK
        · rw [wit, if_neg hnb, if_neg h209, if_pos (Classical.not_not.mp h287)] at hK
          have hbo := bxo_le s.1 b i (i - b)
          refine V_ar_n d_Mod_writeAll_290 rfl ?_
          refine V_iload d_Mod_writeAll_291 rfl ?_
          refine V_ar_n d_Mod_writeAll_293 rfl ?_
          refine V_iload d_Mod_writeAll_294 rfl ?_
          refine V_iload_n d_Mod_writeAll_296 rfl ?_
          refine VR_ci2 d_Mod_writeAll_297 c_Mod_197 (Mod_boxOf hA hbi hi) ⟨by decide, by decide⟩ rfl (Nat.le_of_ble_eq_true rfl) ?_
          refine V_iload_n d_Mod_writeAll_300 rfl ?_
          refine VR_cv3 d_Mod_writeAll_301 c_Mod_200 (Mod_writeRule hA hi (by omega) hbi hib hs (by omega) hw.2.1 hw.2.2.2 hw.1 hw.2.2.1) ⟨by decide, by decide⟩ rfl (Nat.le_of_ble_eq_true rfl) ?_
          exact WA_304 (s := wru s i (bxo s.1 b i (i - b)) b (wh0 s) (wh1 s)) hK
      · rw [wit, if_neg hnb, if_pos (Classical.not_not.mp h209)] at hK
        obtain ⟨f, hf, hf2⟩ := hch (Classical.not_not.mp h209)
        exact WA_212 hA hi hbi hib hq hq2 hs hb hw hf hf2 hK
    · rw [wit, if_pos ⟨h61, Int32.not_le.mp h72⟩] at hK
      exact WA_75 hA hi hbi hib hq hq2 hs hb hw hK
def wfi : Nat → FS → FS
  | 0, s => s
  | q + 1, s => if gF s.1 33 = 0 then s else wfi q (lea s q)
set_option maxRecDepth 100000 in
set_option maxHeartbeats 4000000 in
theorem WA_310 {l : Launch} {D : va_G} {ac : Nat → ClassId} {o : Nat} {ad : Nat → Nat} {M0 : MP} (hA : rAD o ad) {b n i : Nat} : ∀ (q : Nat) (s : FS), gF s.1 27 = nI q → q ≤ 101 → okf s → s.2 + q ≤ 320000 → V l D (tyl ac) t_Mod_writeAll 0 0 310 [(0, .ref o), (1, .int (nI b)), (2, .int (nI n)), (3, .int (nI b)), (4, .int (nI i))] [] (rM ac o ad (s.1) M0) (fun rv M' => rv = none ∧ M' = rM ac o ad ((wfi q s).1) M0) := by
  intro q
  induction q with
  | zero =>
    intro s hq hq1 hs hb
    refine V_ar_n d_Mod_writeAll_310 rfl ?_
    refine VR_geti d_Mod_writeAll_311 f_Mod_160 (by decide) ?_
    refine V_eqi (show _ = nI 0 from hq) ?_
    refine V_if_le 331 d_Mod_writeAll_314 (by decide) (fun h314 => ?_) (fun h314 => ?_)
    · exact V_return d_Mod_writeAll_331 rfl ⟨rfl, rfl⟩
    · exact absurd (by decide) h314
  | succ q ih =>
    intro s hq hq1 hs hb
    refine V_ar_n d_Mod_writeAll_310 rfl ?_
    refine VR_geti d_Mod_writeAll_311 f_Mod_160 (by decide) ?_
    refine V_eqi (show _ = nI (q + 1) from hq) ?_
    refine V_if_le 331 d_Mod_writeAll_314 (by decide) (fun h314 => ?_) (fun h314 => ?_)
    · exact absurd h314 (nI_nle (by omega) (by omega))
    · refine V_ar_n d_Mod_writeAll_317 rfl ?_
      refine VR_geti d_Mod_writeAll_318 f_Mod_156 (by decide) ?_
      refine V_if_eq 331 d_Mod_writeAll_321 (by decide) (fun h321 => ?_) (fun h321 => ?_)
      · rw [wfi, if_pos h321]
        exact V_return d_Mod_writeAll_331 rfl ⟨rfl, rfl⟩
      · rw [wfi, if_neg h321]
        refine V_ar_n d_Mod_writeAll_324 rfl ?_
        refine VR_cv0 d_Mod_writeAll_325 c_Mod_188 (Mod_leave hA hq (by omega) hs (by omega)) ⟨by decide, by decide⟩ rfl (Nat.le_of_ble_eq_true rfl) ?_
        refine V_goto 310 d_Mod_writeAll_328 (by decide) ?_
        exact ih (lea s q) (lea_27 s q) (by omega) (lea_ok hs q) (show s.2 + 1 + q ≤ 320000 by omega)
def wan (b : Nat) (s : FS) (i : Nat) : FS := wit (wpo i (opq s.1) s) (popq s.1 i (opq s.1)) i b
def wal (b : Nat) : Nat → Nat → FS → FS
  | 0, _, s => s
  | m + 1, i, s => if gF s.1 33 = 0 then s else wal b m (i + 1) (wan b s i)
def wak (s : FS) (i : Nat) : Prop := gF s.1 27 = nI (opq s.1) ∧ opq s.1 ≤ 101 ∧ okf s ∧ s.2 + 200 ≤ 320000 ∧ nwk (wpo i (opq s.1) s) ∧ (gB s.1 1 i = 1 → ∃ f, gB s.1 5 i = nI f ∧ f < 32)
/-- all is in range, item by item, and at the end -/
def waok (b : Nat) : Nat → Nat → FS → Prop
  | 0, _, s => gF s.1 27 = nI (opq s.1) ∧ opq s.1 ≤ 101 ∧ okf s ∧ s.2 + 200 ≤ 320000
  | m + 1, i, s => (gF s.1 33 = 0 ∧ gF s.1 27 = nI (opq s.1) ∧ opq s.1 ≤ 101 ∧ okf s ∧ s.2 + 200 ≤ 320000) ∨ (wak s i ∧ waok b m (i + 1) (wan b s i))
def war (b m i : Nat) (s : FS) : FS := wfi (opq (wal b m i s).1) (wal b m i s)
set_option maxRecDepth 100000 in
set_option maxHeartbeats 4000000 in
theorem WA_10 {l : Launch} {D : va_G} {ac : Nat → ClassId} {o : Nat} {ad : Nat → Nat} {M0 : MP} (hA : rAD o ad) {b n : Nat} (hbn : b + n ≤ 6200) (hn : n ≤ 3100) : ∀ (m i : Nat) (s : FS), i + m = b + n → b ≤ i → waok b m i s → V l D (tyl ac) t_Mod_writeAll 0 0 10 [(0, .ref o), (1, .int (nI b)), (2, .int (nI n)), (3, .int (nI b)), (4, .int (nI i))] [] (rM ac o ad (s.1) M0) (fun rv M' => rv = none ∧ M' = rM ac o ad ((war b m i s).1) M0) := by
  intro m
  induction m with
  | zero =>
    intro i s h1 h2 hok
    refine V_iload d_Mod_writeAll_10 rfl ?_
    refine V_iload_n d_Mod_writeAll_12 rfl ?_
    refine V_iload_n d_Mod_writeAll_13 rfl ?_
    refine V_iadd d_Mod_writeAll_14 ?_
    refine V_eqi (nI_add b n) ?_
    refine V_icmp_ge 310 d_Mod_writeAll_15 (by decide) (fun h15 => ?_) (fun h15 => ?_)
    · exact WA_310 hA (opq s.1) s hok.1 hok.2.1 hok.2.2.1 (by have := hok.2.2.2; have := hok.2.1; omega)
    · exact absurd (nI_le (show b + n ≤ i by omega) (by omega)) h15
  | succ m ih =>
    intro i s h1 h2 hok
    refine V_iload d_Mod_writeAll_10 rfl ?_
    refine V_iload_n d_Mod_writeAll_12 rfl ?_
    refine V_iload_n d_Mod_writeAll_13 rfl ?_
    refine V_iadd d_Mod_writeAll_14 ?_
    refine V_eqi (nI_add b n) ?_
    refine V_icmp_ge 310 d_Mod_writeAll_15 (by decide) (fun h15 => ?_) (fun h15 => ?_)
    · exact absurd h15 (nI_ge (by omega) (by omega))
    · refine V_ar_n d_Mod_writeAll_18 rfl ?_
      refine VR_geti d_Mod_writeAll_19 f_Mod_156 (by decide) ?_
      refine V_if_eq 310 d_Mod_writeAll_22 (by decide) (fun h22 => ?_) (fun h22 => ?_)
      · have hw9 : wal b (m + 1) i s = s := by rw [wal, if_pos h22]
        unfold war
        rw [hw9]
        have hk : gF s.1 27 = nI (opq s.1) ∧ opq s.1 ≤ 101 ∧ okf s ∧ s.2 + 200 ≤ 320000 := hok.elim (fun z => z.2) (fun z => ⟨z.1.1, z.1.2.1, z.1.2.2.1, z.1.2.2.2.1⟩)
        exact WA_310 hA (opq s.1) s hk.1 hk.2.1 hk.2.2.1 (by omega)
      · have hw9 : wal b (m + 1) i s = wal b m (i + 1) (wan b s i) := by rw [wal, if_neg h22]
        unfold war
        rw [hw9]
        obtain ⟨⟨k1, k2, k3, k4, k5, k6⟩, hnx⟩ := hok.resolve_left (fun z => h22 z.1)
        have hpo := wpo_ok i (opq s.1) k3
        have hpl := popq_le s.1 i (opq s.1)
        refine WA_25 hA (opq s.1) s k1 k2 k3 (by omega) ?_
        exact WA_55 (s := wpo i (opq s.1) s) hA (by omega) (by omega) (by omega) (wpo_27 i _ s k1) (by omega) hpo.1 (by omega) k5 (by rw [wpo_B i (k := 1) (by decide) (by decide), wpo_B i (k := 5) (by decide) (by decide)]; exact k6) (ih (i + 1) (wan b s i) (by omega) (by omega) hnx)
set_option maxRecDepth 100000 in
set_option maxHeartbeats 4000000 in
theorem Mod_writeAll {l : Launch} {D : va_G} {ac : Nat → ClassId} {o : Nat} {ad : Nat → Nat} {s : FS} (hA : rAD o ad) {b n : Nat} (hbn : b + n ≤ 6200) (hn : n ≤ 3100) (hok : waok b n b (sF s.1 27 (nI 0), s.2)) : RCv l D ac o ad t_Mod_writeAll [.int (nI b), .int (nI n)] s.1 (war b n b (sF s.1 27 (nI 0), s.2)).1 := fun M0 => by
  refine Ct_of (by decide) (Nat.le_of_ble_eq_true rfl) ?_
  refine V_ar_n d_Mod_writeAll_0 rfl ?_
  refine V_iconst (v := nI 0) d_Mod_writeAll_1 (by decide) ?_
  refine VR_puti d_Mod_writeAll_2 f_Mod_160 (by decide) ?_
  refine V_iload_n d_Mod_writeAll_5 rfl ?_
  refine V_istore_n (lv' := [(3, .int (nI b)), (0, .ref o), (1, .int (nI b)), (2, .int (nI n))]) d_Mod_writeAll_6 (by decide) rfl ?_
  refine V_iload_n d_Mod_writeAll_7 rfl ?_
  refine V_istore (lv' := [(4, .int (nI b)), (3, .int (nI b)), (0, .ref o), (1, .int (nI b)), (2, .int (nI n))]) d_Mod_writeAll_8 (by decide) rfl ?_
  refine V_lv [2, 3, 4, 1, 0] rfl ?_
  exact WA_10 hA hbn hn n b (sF s.1 27 (nI 0), s.2) rfl (Nat.le_refl b) hok
