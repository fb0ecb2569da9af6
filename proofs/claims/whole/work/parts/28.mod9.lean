/-! writeCharacter, writeRule, finish -/
def chw1 (s : FS) (f : Nat) : FS := if gB s.1 15 f = 0 then wpl (w1 s.1 15 f 1, s.2) (fonl s.1 f) else s
def chw2 (s : FS) (f : Nat) : FS := if nI f = gF s.1 32 then s else (sF (wp s (nI (171 + f)) 1).1 32 (nI f), s.2 + 1)
def chw3 (s : FS) (c : Int32) : FS := if c ≤ 127 then s else wp s 128 1
def chw (s : FS) (f : Nat) (c : Int32) : FS := wp (chw3 (chw2 (chw1 s f) f) c) c 1
def tot (l : List (Int32 × Nat)) : Nat := (l.map (·.2)).sum
theorem wpl_2 (s : FS) (l : List (Int32 × Nat)) : (wpl s l).2 = s.2 + tot l := by
  induction l generalizing s with
  | nil => rfl
  | cons q l ih =>
    show (wpl (wp s q.1 q.2) l).2 = _
    rw [ih]
    show s.2 + q.2 + tot l = s.2 + (q.2 + tot l)
    omega
theorem wpl_F {k : Nat} (hk : k ≠ 18) (s : FS) (l : List (Int32 × Nat)) : gF (wpl s l).1 k = gF s.1 k := by
  induction l generalizing s with
  | nil => rfl
  | cons q l ih => exact (ih _).trans (wrt_F hk _ _ _ _)
theorem wpl_B {k : Nat} (hk : k ≠ 17) (s : FS) (l : List (Int32 × Nat)) : gB (wpl s l).1 k = gB s.1 k := by
  induction l generalizing s with
  | nil => rfl
  | cons q l ih => exact (ih _).trans (wrt_B hk _ _ _ _)
theorem wrt_T : ∀ (c : Nat) (r : RS) (n : Nat) (v : Int32), (wrt c r n v).2.1 = r.2.1 := by
  intro c
  induction c with
  | zero => intro r n v; rfl
  | succ c ih => intro r n v; exact ih _ _ _
theorem wpl_T (s : FS) (l : List (Int32 × Nat)) : (wpl s l).1.2.1 = s.1.2.1 := by
  induction l generalizing s with
  | nil => rfl
  | cons q l ih => exact (ih _).trans (wrt_T _ _ _ _)
theorem chw1_ok {s : FS} (h : okf s) (f : Nat) : okf (chw1 s f) ∧ s.2 ≤ (chw1 s f).2 ∧ (chw1 s f).2 ≤ s.2 + 18 := by
  unfold chw1
  split
  · refine ⟨wpl_ok (s := (w1 s.1 15 f 1, s.2)) h _, ?_, ?_⟩ <;> rw [wpl_2] <;> simp [fonl, tot]
  · exact ⟨h, by omega, by omega⟩
theorem chw2_ok {s : FS} (h : okf s) (f : Nat) : okf (chw2 s f) ∧ s.2 ≤ (chw2 s f).2 ∧ (chw2 s f).2 ≤ s.2 + 1 := by
  unfold chw2
  split
  · exact ⟨h, by omega, by omega⟩
  · exact ⟨wp_ok h (nI (171 + f)) 1, by simp, by simp⟩
theorem chw3_ok {s : FS} (h : okf s) (c : Int32) : okf (chw3 s c) ∧ s.2 ≤ (chw3 s c).2 ∧ (chw3 s c).2 ≤ s.2 + 1 := by
  unfold chw3
  split
  · exact ⟨h, by omega, by omega⟩
  · exact ⟨wp_ok h _ 1, by simp [wp], by simp [wp]⟩
theorem chw12_6 (s : FS) (f : Nat) : gB (chw2 (chw1 s f) f).1 6 = gB s.1 6 := by
  have h1 : gB (chw1 s f).1 6 = gB s.1 6 := by
    unfold chw1
    split
    · exact (wpl_B (by decide) _ _).trans (w1_B _ _ _ (by decide))
    · rfl
  unfold chw2
  split
  · exact h1
  · exact (wrt_B (by decide) _ _ _ _).trans h1
set_option maxRecDepth 100000 in
set_option maxHeartbeats 4000000 in
theorem Mod_wc_70 {l : Launch} {D : va_G} {ac : Nat → ClassId} {o : Nat} {ad : Nat → Nat} {s : FS} {M0 : MP} (hA : rAD o ad) {f i : Nat} {c : Int32} (hi : i < 6200) (hc : gB s.1 6 i = c) (hs : okf s) (hb : s.2 + 1 ≤ 320000) : V l D (tyl ac) t_Mod_writeCharacter 0 0 70 [(2, .int (nI f)), (0, .ref o), (1, .int (nI i))] [] (rM ac o ad (s.1) M0) (fun rv M' => rv = none ∧ M' = rM ac o ad ((wp s c 1).1) M0) := by
  refine V_ar_n d_Mod_writeCharacter_70 rfl ?_
  refine V_ar_n d_Mod_writeCharacter_71 rfl ?_
  refine VR_geta d_Mod_writeCharacter_72 f_Mod_25 (by decide) ?_
  refine V_iload_n d_Mod_writeCharacter_75 rfl ?_
  refine VR_iald hA d_Mod_writeCharacter_76 rfl (by omega) (by decide) ?_
  refine V_eqi (show _ = c from hc) ?_
  refine V_iconst (v := nI 1) d_Mod_writeCharacter_77 (by decide) ?_
  refine VR_cv2 d_Mod_writeCharacter_78 c_Mod_149 (Mod_write hA _ (hs) (by decide) (by omega)) ⟨by decide, by decide⟩ rfl (Nat.le_of_ble_eq_true rfl) ?_
  exact V_return d_Mod_writeCharacter_81 rfl ⟨rfl, rfl⟩
set_option maxRecDepth 100000 in
set_option maxHeartbeats 4000000 in
theorem Mod_wc_51 {l : Launch} {D : va_G} {ac : Nat → ClassId} {o : Nat} {ad : Nat → Nat} {s : FS} {M0 : MP} (hA : rAD o ad) {f i : Nat} {c : Int32} (hi : i < 6200) (hc : gB s.1 6 i = c) (hs : okf s) (hb : s.2 + 2 ≤ 320000) : V l D (tyl ac) t_Mod_writeCharacter 0 0 51 [(2, .int (nI f)), (0, .ref o), (1, .int (nI i))] [] (rM ac o ad (s.1) M0) (fun rv M' => rv = none ∧ M' = rM ac o ad ((wp (chw3 s c) c 1).1) M0) := by
  refine V_ar_n d_Mod_writeCharacter_51 rfl ?_
  refine VR_geta d_Mod_writeCharacter_52 f_Mod_25 (by decide) ?_
  refine V_iload_n d_Mod_writeCharacter_55 rfl ?_
  refine VR_iald hA d_Mod_writeCharacter_56 rfl (by omega) (by decide) ?_
  refine V_eqi (show _ = c from hc) ?_
  refine V_bipush (v := 127) d_Mod_writeCharacter_57 (by decide) ?_
  refine V_icmp_le 70 d_Mod_writeCharacter_59 (by decide) (fun h59 => ?_) (fun h59 => ?_)
  · rw [chw3, if_pos h59]
    exact Mod_wc_70 hA hi hc hs (by omega)
  · refine V_ar_n d_Mod_writeCharacter_62 rfl ?_
    refine V_sipush (v := 128) d_Mod_writeCharacter_63 (by decide) ?_
    refine V_iconst (v := nI 1) d_Mod_writeCharacter_66 (by decide) ?_
    refine VR_cv2 d_Mod_writeCharacter_67 c_Mod_149 (Mod_write hA _ (hs) (by decide) (by omega)) ⟨by decide, by decide⟩ rfl (Nat.le_of_ble_eq_true rfl) ?_
    rw [chw3, if_neg h59]
    exact Mod_wc_70 (s := wp s 128 1) hA hi ((congrFun (wrt_B (by decide) _ _ _ _) i).trans hc) (wp_ok hs _ 1) (by simp only [wp]; omega)
set_option maxRecDepth 100000 in
set_option maxHeartbeats 4000000 in
theorem Mod_wc_28 {l : Launch} {D : va_G} {ac : Nat → ClassId} {o : Nat} {ad : Nat → Nat} {s : FS} {M0 : MP} (hA : rAD o ad) {f i : Nat} {c : Int32} (hi : i < 6200) (hf : f < 32) (hc : gB s.1 6 i = c) (hs : okf s) (hb : s.2 + 3 ≤ 320000) : V l D (tyl ac) t_Mod_writeCharacter 0 0 28 [(2, .int (nI f)), (0, .ref o), (1, .int (nI i))] [] (rM ac o ad (s.1) M0) (fun rv M' => rv = none ∧ M' = rM ac o ad ((wp (chw3 (chw2 s f) c) c 1).1) M0) := by
  refine V_iload_n d_Mod_writeCharacter_28 rfl ?_
  refine V_ar_n d_Mod_writeCharacter_29 rfl ?_
  refine VR_geti d_Mod_writeCharacter_30 f_Mod_182 (by decide) ?_
  refine V_icmp_eq 51 d_Mod_writeCharacter_33 (by decide) (fun h33 => ?_) (fun h33 => ?_)
  · rw [chw2, if_pos h33]
    exact Mod_wc_51 hA hi hc hs (by omega)
  · refine V_ar_n d_Mod_writeCharacter_36 rfl ?_
    refine V_sipush (v := nI 171) d_Mod_writeCharacter_37 (by decide) ?_
    refine V_iload_n d_Mod_writeCharacter_40 rfl ?_
    refine V_iadd d_Mod_writeCharacter_41 ?_
    refine V_eqi (nI_add _ _) ?_
    refine V_iconst (v := nI 1) d_Mod_writeCharacter_42 (by decide) ?_
    refine VR_cv2 d_Mod_writeCharacter_43 c_Mod_149 (Mod_write hA _ (hs) (by decide) (by omega)) ⟨by decide, by decide⟩ rfl (Nat.le_of_ble_eq_true rfl) ?_
    refine V_ar_n d_Mod_writeCharacter_46 rfl ?_
    refine V_iload_n d_Mod_writeCharacter_47 rfl ?_
    refine VR_puti d_Mod_writeCharacter_48 f_Mod_182 (by decide) ?_
    rw [chw2, if_neg h33]
    exact Mod_wc_51 (s := (sF (wp s (nI (171 + f)) 1).1 32 (nI f), s.2 + 1)) hA hi ((congrFun (wrt_B (by decide) _ _ _ _) i).trans hc) (wp_ok hs (nI (171 + f)) 1) (show s.2 + 1 + 2 ≤ 320000 by omega)
set_option maxRecDepth 100000 in
set_option maxHeartbeats 4000000 in
theorem Mod_writeCharacter {l : Launch} {D : va_G} {ac : Nat → ClassId} {o : Nat} {ad : Nat → Nat} {s : FS} (hA : rAD o ad) {f i : Nat} {c : Int32} (hi : i < 6200) (hf : f < 32) (hfi : gB s.1 5 i = nI f) (hc : gB s.1 6 i = c) (hs : okf s) (hb : s.2 + 21 ≤ 320000) : RCv l D ac o ad t_Mod_writeCharacter [.int (nI i)] s.1 (chw s f c).1 := fun M0 => by
  refine Ct_of (by decide) (Nat.le_of_ble_eq_true rfl) ?_
  refine V_ar_n d_Mod_writeCharacter_0 rfl ?_
  refine VR_geta d_Mod_writeCharacter_1 f_Mod_22 (by decide) ?_
  refine V_iload_n d_Mod_writeCharacter_4 rfl ?_
  refine VR_iald hA d_Mod_writeCharacter_5 rfl (by omega) (by decide) ?_
  refine V_eqi (show _ = nI f from hfi) ?_
  refine V_istore_n (lv' := [(2, .int (nI f)), (0, .ref o), (1, .int (nI i))]) d_Mod_writeCharacter_6 (by decide) rfl ?_
  refine V_ar_n d_Mod_writeCharacter_7 rfl ?_
  refine VR_geta d_Mod_writeCharacter_8 f_Mod_47 (by decide) ?_
  refine V_iload_n d_Mod_writeCharacter_11 rfl ?_
  refine VR_zald hA d_Mod_writeCharacter_12 rfl (by omega) (by decide) ?_
  refine V_if_ne 28 d_Mod_writeCharacter_13 (by decide) (fun h13 => ?_) (fun h13 => ?_)
  · rw [chw, chw1, if_neg h13]
    exact Mod_wc_28 hA hi hf hc hs (by omega)
  · have h0 : gB s.1 15 f = 0 := Classical.not_not.mp h13
    refine V_ar_n d_Mod_writeCharacter_16 rfl ?_
    refine VR_geta d_Mod_writeCharacter_17 f_Mod_47 (by decide) ?_
    refine V_iload_n d_Mod_writeCharacter_20 rfl ?_
    refine V_iconst (v := 1) d_Mod_writeCharacter_21 (by decide) ?_
    refine VR_zast hA d_Mod_writeCharacter_22 rfl (by omega) (by decide) ?_
    refine V_ar_n d_Mod_writeCharacter_23 rfl ?_
    refine V_iload_n d_Mod_writeCharacter_24 rfl ?_
    refine VR_cv1 d_Mod_writeCharacter_25 c_Mod_179 (Mod_writeFont (r := w1 s.1 15 f 1) hA hs (by omega) hf) ⟨by decide, by decide⟩ rfl (Nat.le_of_ble_eq_true rfl) ?_
    have ho := chw1_ok hs f
    have he : (chw1 s f).1 = wl (w1 s.1 15 f 1) s.2 (fonl (w1 s.1 15 f 1) f) := by rw [chw1, if_pos h0]; exact wpl_wl _ _
    rw [← he]
    exact Mod_wc_28 hA hi hf (by rw [chw1, if_pos h0]; exact (congrFun ((wpl_B (by decide) _ _).trans (w1_B _ _ _ (by decide))) i).trans hc) ho.1 (by omega)
def rsel (r : RS) (k i bx : Nat) : Int32 := if gB r k i = -2147483648 then gB r k bx else gB r k i
/-- what a rule writes: A: across -/
def wr1 (s : FS) (A w e x y : Int32) (wh0 wh1 : Nat) : FS := wpl (gt s x y wh0 wh1) [(if A = 0 then 137 else 132, 1), (e, 4), (w, 4)]
def wr2 (s : FS) (A w : Int32) : FS := if A = 0 then s else (w1 (szd s.1 ((gB s.1 31 0).toInt64 + w.toInt64)) 31 0 (gB s.1 31 0 + w), s.2)
def wr3 (s : FS) (A w e x y : Int32) (wh0 wh1 : Nat) : FS := if 0 < w ∧ 0 < e then wr2 (wr1 s A w e x y wh0 wh1) A w else s
def acr (r : RS) (bx : Nat) : Int32 := if gB r 1 bx = 4 then 1 else 0
def wru (s : FS) (i bx b wh0 wh1 : Nat) : FS := wr3 s (acr s.1 bx) (rsel s.1 2 i bx) (rsel s.1 3 i bx + rsel s.1 4 i bx) (gB s.1 25 (i - b)) (gB s.1 26 (i - b)) wh0 wh1
set_option maxRecDepth 100000 in
set_option maxHeartbeats 4000000 in
theorem Mod_wr_153 {l : Launch} {D : va_G} {ac : Nat → ClassId} {o : Nat} {ad : Nat → Nat} {s : FS} {M0 : MP} (hA : rAD o ad) {i bx b : Nat} {A w h d : Int32} (hs : okf s) (hb : s.2 + 8 ≤ 320000) : V l D (tyl ac) t_Mod_writeRule 0 0 153 [(7, .int d), (6, .int h), (5, .int w), (4, .int A), (0, .ref o), (1, .int (nI i)), (2, .int (nI bx)), (3, .int (nI b))] [] (rM ac o ad (s.1) M0) (fun rv M' => rv = none ∧ M' = rM ac o ad ((wr2 (wpl s [(h + d, 4), (w, 4)]) A w).1) M0) := by
  refine V_ar_n d_Mod_writeRule_153 rfl ?_
  refine V_iload d_Mod_writeRule_154 rfl ?_
  refine V_iload d_Mod_writeRule_156 rfl ?_
  refine V_iadd d_Mod_writeRule_158 ?_
  refine V_iconst (v := nI 4) d_Mod_writeRule_159 (by decide) ?_
  refine VR_cv2 d_Mod_writeRule_160 c_Mod_149 (Mod_write hA _ (hs) (by decide) (by omega)) ⟨by decide, by decide⟩ rfl (Nat.le_of_ble_eq_true rfl) ?_
  refine V_ar_n d_Mod_writeRule_163 rfl ?_
  refine V_iload d_Mod_writeRule_164 rfl ?_
  refine V_iconst (v := nI 4) d_Mod_writeRule_166 (by decide) ?_
  refine VR_cv2 d_Mod_writeRule_167 c_Mod_149 (Mod_write hA _ (wrt_len 4 hs) (by decide) (by omega)) ⟨by decide, by decide⟩ rfl (Nat.le_of_ble_eq_true rfl) ?_
  refine V_iload d_Mod_writeRule_170 rfl ?_
  refine V_if_eq 201 d_Mod_writeRule_172 (by decide) (fun h172 => ?_) (fun h172 => ?_)
  · rw [wr2, if_pos h172]
    exact V_return d_Mod_writeRule_201 rfl ⟨rfl, rfl⟩
  · refine V_ar_n d_Mod_writeRule_175 rfl ?_
    refine V_ar_n d_Mod_writeRule_176 rfl ?_
    refine VR_geta d_Mod_writeRule_177 f_Mod_78 (by decide) ?_
    refine V_iconst (v := nI 0) d_Mod_writeRule_180 (by decide) ?_
    refine VR_iald hA d_Mod_writeRule_181 rfl (by omega) (by decide) ?_
    refine V_i2l d_Mod_writeRule_182 ?_
    refine V_iload d_Mod_writeRule_183 rfl ?_
    refine V_i2l d_Mod_writeRule_185 ?_
    refine V_ladd d_Mod_writeRule_186 ?_
    refine VR_cv1 d_Mod_writeRule_187 c_Mod_163 (Mod_sized _) ⟨by decide, by decide⟩ rfl (Nat.le_of_ble_eq_true rfl) ?_
    refine V_ar_n d_Mod_writeRule_190 rfl ?_
    refine VR_geta d_Mod_writeRule_191 f_Mod_78 (by decide) ?_
    refine V_iconst (v := nI 0) d_Mod_writeRule_194 (by decide) ?_
    refine V_dup2 d_Mod_writeRule_195 rfl rfl ?_
    refine VR_iald hA d_Mod_writeRule_196 rfl (by omega) (by decide) ?_
    refine V_iload d_Mod_writeRule_197 rfl ?_
    refine V_iadd d_Mod_writeRule_199 ?_
    refine VR_iast hA d_Mod_writeRule_200 rfl (by omega) (by decide) ?_
    rw [wr2, if_neg h172]
    exact V_return d_Mod_writeRule_201 rfl ⟨rfl, rfl⟩
set_option maxRecDepth 100000 in
set_option maxHeartbeats 4000000 in
theorem Mod_wr_101 {l : Launch} {D : va_G} {ac : Nat → ClassId} {o : Nat} {ad : Nat → Nat} {s : FS} {M0 : MP} (hA : rAD o ad) {i bx b wh0 wh1 : Nat} {A w h d : Int32} (hi : i < 6200) (hbx : bx < 6200) (hbi : b ≤ i) (hib : i - b < 3100) (hs : okf s) (hb : s.2 + 19 ≤ 320000) (hw0 : wh0 ≤ 1) (hw1 : wh1 ≤ 1) (h6 : gB s.1 31 6 = nI wh0) (h7 : gB s.1 31 7 = nI wh1) : V l D (tyl ac) t_Mod_writeRule 0 0 101 [(7, .int d), (6, .int h), (5, .int w), (4, .int A), (0, .ref o), (1, .int (nI i)), (2, .int (nI bx)), (3, .int (nI b))] [] (rM ac o ad (s.1) M0) (fun rv M' => rv = none ∧ M' = rM ac o ad ((wr3 s A w (h + d) (gB s.1 25 (i - b)) (gB s.1 26 (i - b)) wh0 wh1).1) M0) := by
  refine V_iload d_Mod_writeRule_101 rfl ?_
  refine V_if_le 201 d_Mod_writeRule_103 (by decide) (fun h103 => ?_) (fun h103 => ?_)
  · rw [wr3, if_neg (fun z => absurd h103 (Int32.not_le.mpr z.1))]
    exact V_return d_Mod_writeRule_201 rfl ⟨rfl, rfl⟩
  · refine V_iload d_Mod_writeRule_106 rfl ?_
    refine V_iload d_Mod_writeRule_108 rfl ?_
    refine V_iadd d_Mod_writeRule_110 ?_
    refine V_if_le 201 d_Mod_writeRule_111 (by decide) (fun h111 => ?_) (fun h111 => ?_)
    · rw [wr3, if_neg (fun z => absurd h111 (Int32.not_le.mpr z.2))]
      exact V_return d_Mod_writeRule_201 rfl ⟨rfl, rfl⟩
    · rw [wr3, if_pos ⟨Int32.not_le.mp h103, Int32.not_le.mp h111⟩]
      have hg := gt_le s (gB s.1 25 (i - b)) (gB s.1 26 (i - b)) wh0 wh1
      have hgo := gt_ok hs (gB s.1 25 (i - b)) (gB s.1 26 (i - b)) wh0 wh1
      unfold wr1
      generalize hG : gt s (gB s.1 25 (i - b)) (gB s.1 26 (i - b)) wh0 wh1 = G at hg hgo ⊢
      refine V_ar_n d_Mod_writeRule_114 rfl ?_
      refine V_ar_n d_Mod_writeRule_115 rfl ?_
      refine VR_geta d_Mod_writeRule_116 f_Mod_62 (by decide) ?_
      refine V_iload_n d_Mod_writeRule_119 rfl ?_
      refine V_iload_n d_Mod_writeRule_120 rfl ?_
      refine V_isub d_Mod_writeRule_121 ?_
      refine V_eqi (pk_sub hbi) ?_
      refine VR_iald hA d_Mod_writeRule_122 rfl (by omega) (by decide) ?_
      refine V_ar_n d_Mod_writeRule_123 rfl ?_
      refine VR_geta d_Mod_writeRule_124 f_Mod_65 (by decide) ?_
      refine V_iload_n d_Mod_writeRule_127 rfl ?_
      refine V_iload_n d_Mod_writeRule_128 rfl ?_
      refine V_isub d_Mod_writeRule_129 ?_
      refine V_eqi (pk_sub hbi) ?_
      refine VR_iald hA d_Mod_writeRule_130 rfl (by omega) (by decide) ?_
      refine VR_cv2 d_Mod_writeRule_131 c_Mod_185 (Mod_goTo hA _ _ hs (by omega) hw0 hw1 h6 h7) ⟨by decide, by decide⟩ rfl (Nat.le_of_ble_eq_true rfl) ?_
      refine V_ar_n d_Mod_writeRule_134 rfl ?_
      refine V_iload d_Mod_writeRule_135 rfl ?_
      refine V_if_eq 146 d_Mod_writeRule_137 (by decide) (fun h137 => ?_) (fun h137 => ?_)
      · rw [hG]
        refine V_sipush (v := 137) d_Mod_writeRule_146 (by decide) ?_
        refine V_iconst (v := nI 1) d_Mod_writeRule_149 (by decide) ?_
        refine VR_cv2 d_Mod_writeRule_150 c_Mod_149 (Mod_write hA _ (hgo) (by decide) (by omega)) ⟨by decide, by decide⟩ rfl (Nat.le_of_ble_eq_true rfl) ?_
        rw [if_pos h137]
        exact Mod_wr_153 (s := wp G 137 1) hA (wp_ok hgo _ 1) (by simp only [wp]; omega)
      · rw [hG]
        refine V_sipush (v := 132) d_Mod_writeRule_140 (by decide) ?_
        refine V_goto 149 d_Mod_writeRule_143 (by decide) ?_
        refine V_iconst (v := nI 1) d_Mod_writeRule_149 (by decide) ?_
        refine VR_cv2 d_Mod_writeRule_150 c_Mod_149 (Mod_write hA _ (hgo) (by decide) (by omega)) ⟨by decide, by decide⟩ rfl (Nat.le_of_ble_eq_true rfl) ?_
        rw [if_neg h137]
        exact Mod_wr_153 (s := wp G 132 1) hA (wp_ok hgo _ 1) (by simp only [wp]; omega)
set_option maxRecDepth 100000 in
set_option maxHeartbeats 4000000 in
theorem Mod_wr_73 {l : Launch} {D : va_G} {ac : Nat → ClassId} {o : Nat} {ad : Nat → Nat} {s : FS} {M0 : MP} (hA : rAD o ad) {i bx b wh0 wh1 : Nat} {A w h : Int32} (hi : i < 6200) (hbx : bx < 6200) (hbi : b ≤ i) (hib : i - b < 3100) (hs : okf s) (hb : s.2 + 19 ≤ 320000) (hw0 : wh0 ≤ 1) (hw1 : wh1 ≤ 1) (h6 : gB s.1 31 6 = nI wh0) (h7 : gB s.1 31 7 = nI wh1) : V l D (tyl ac) t_Mod_writeRule 0 0 73 [(6, .int h), (5, .int w), (4, .int A), (0, .ref o), (1, .int (nI i)), (2, .int (nI bx)), (3, .int (nI b))] [] (rM ac o ad (s.1) M0) (fun rv M' => rv = none ∧ M' = rM ac o ad ((wr3 s A w (h + rsel s.1 4 i bx) (gB s.1 25 (i - b)) (gB s.1 26 (i - b)) wh0 wh1).1) M0) := by
  refine V_ar_n d_Mod_writeRule_73 rfl ?_
  refine VR_geta d_Mod_writeRule_74 f_Mod_19 (by decide) ?_
  refine V_iload_n d_Mod_writeRule_77 rfl ?_
  refine VR_iald hA d_Mod_writeRule_78 rfl (by omega) (by decide) ?_
  refine V_ldc d_Mod_writeRule_79 k_Mod_115 ?_
  refine V_icmp_ne 93 d_Mod_writeRule_81 (by decide) (fun h81 => ?_) (fun h81 => ?_)
  · refine V_ar_n d_Mod_writeRule_93 rfl ?_
    refine VR_geta d_Mod_writeRule_94 f_Mod_19 (by decide) ?_
    refine V_iload_n d_Mod_writeRule_97 rfl ?_
    refine VR_iald hA d_Mod_writeRule_98 rfl (by omega) (by decide) ?_
    refine V_eqi (show _ = rsel s.1 4 i bx from (if_neg h81).symm) ?_
    refine V_istore (lv' := [(7, .int (rsel s.1 4 i bx)), (6, .int h), (5, .int w), (4, .int A), (0, .ref o), (1, .int (nI i)), (2, .int (nI bx)), (3, .int (nI b))]) d_Mod_writeRule_99 (by decide) rfl ?_
    exact Mod_wr_101 hA hi hbx hbi hib hs hb hw0 hw1 h6 h7
  · refine V_ar_n d_Mod_writeRule_84 rfl ?_
    refine VR_geta d_Mod_writeRule_85 f_Mod_19 (by decide) ?_
    refine V_iload_n d_Mod_writeRule_88 rfl ?_
    refine VR_iald hA d_Mod_writeRule_89 rfl (by omega) (by decide) ?_
    refine V_goto 99 d_Mod_writeRule_90 (by decide) ?_
    refine V_eqi (show _ = rsel s.1 4 i bx from (if_pos (Classical.not_not.mp h81)).symm) ?_
    refine V_istore (lv' := [(7, .int (rsel s.1 4 i bx)), (6, .int h), (5, .int w), (4, .int A), (0, .ref o), (1, .int (nI i)), (2, .int (nI bx)), (3, .int (nI b))]) d_Mod_writeRule_99 (by decide) rfl ?_
    exact Mod_wr_101 hA hi hbx hbi hib hs hb hw0 hw1 h6 h7
set_option maxRecDepth 100000 in
set_option maxHeartbeats 4000000 in
theorem Mod_wr_45 {l : Launch} {D : va_G} {ac : Nat → ClassId} {o : Nat} {ad : Nat → Nat} {s : FS} {M0 : MP} (hA : rAD o ad) {i bx b wh0 wh1 : Nat} {A w : Int32} (hi : i < 6200) (hbx : bx < 6200) (hbi : b ≤ i) (hib : i - b < 3100) (hs : okf s) (hb : s.2 + 19 ≤ 320000) (hw0 : wh0 ≤ 1) (hw1 : wh1 ≤ 1) (h6 : gB s.1 31 6 = nI wh0) (h7 : gB s.1 31 7 = nI wh1) : V l D (tyl ac) t_Mod_writeRule 0 0 45 [(5, .int w), (4, .int A), (0, .ref o), (1, .int (nI i)), (2, .int (nI bx)), (3, .int (nI b))] [] (rM ac o ad (s.1) M0) (fun rv M' => rv = none ∧ M' = rM ac o ad ((wr3 s A w (rsel s.1 3 i bx + rsel s.1 4 i bx) (gB s.1 25 (i - b)) (gB s.1 26 (i - b)) wh0 wh1).1) M0) := by
  refine V_ar_n d_Mod_writeRule_45 rfl ?_
  refine VR_geta d_Mod_writeRule_46 f_Mod_16 (by decide) ?_
  refine V_iload_n d_Mod_writeRule_49 rfl ?_
  refine VR_iald hA d_Mod_writeRule_50 rfl (by omega) (by decide) ?_
  refine V_ldc d_Mod_writeRule_51 k_Mod_115 ?_
  refine V_icmp_ne 65 d_Mod_writeRule_53 (by decide) (fun h53 => ?_) (fun h53 => ?_)
  · refine V_ar_n d_Mod_writeRule_65 rfl ?_
    refine VR_geta d_Mod_writeRule_66 f_Mod_16 (by decide) ?_
    refine V_iload_n d_Mod_writeRule_69 rfl ?_
    refine VR_iald hA d_Mod_writeRule_70 rfl (by omega) (by decide) ?_
    refine V_eqi (show _ = rsel s.1 3 i bx from (if_neg h53).symm) ?_
    refine V_istore (lv' := [(6, .int (rsel s.1 3 i bx)), (5, .int w), (4, .int A), (0, .ref o), (1, .int (nI i)), (2, .int (nI bx)), (3, .int (nI b))]) d_Mod_writeRule_71 (by decide) rfl ?_
    exact Mod_wr_73 hA hi hbx hbi hib hs hb hw0 hw1 h6 h7
  · refine V_ar_n d_Mod_writeRule_56 rfl ?_
    refine VR_geta d_Mod_writeRule_57 f_Mod_16 (by decide) ?_
    refine V_iload_n d_Mod_writeRule_60 rfl ?_
    refine VR_iald hA d_Mod_writeRule_61 rfl (by omega) (by decide) ?_
    refine V_goto 71 d_Mod_writeRule_62 (by decide) ?_
    refine V_eqi (show _ = rsel s.1 3 i bx from (if_pos (Classical.not_not.mp h53)).symm) ?_
    refine V_istore (lv' := [(6, .int (rsel s.1 3 i bx)), (5, .int w), (4, .int A), (0, .ref o), (1, .int (nI i)), (2, .int (nI bx)), (3, .int (nI b))]) d_Mod_writeRule_71 (by decide) rfl ?_
    exact Mod_wr_73 hA hi hbx hbi hib hs hb hw0 hw1 h6 h7
set_option maxRecDepth 100000 in
set_option maxHeartbeats 4000000 in
theorem Mod_wr_17 {l : Launch} {D : va_G} {ac : Nat → ClassId} {o : Nat} {ad : Nat → Nat} {s : FS} {M0 : MP} (hA : rAD o ad) {i bx b wh0 wh1 : Nat} {A : Int32} (hi : i < 6200) (hbx : bx < 6200) (hbi : b ≤ i) (hib : i - b < 3100) (hs : okf s) (hb : s.2 + 19 ≤ 320000) (hw0 : wh0 ≤ 1) (hw1 : wh1 ≤ 1) (h6 : gB s.1 31 6 = nI wh0) (h7 : gB s.1 31 7 = nI wh1) : V l D (tyl ac) t_Mod_writeRule 0 0 17 [(4, .int A), (0, .ref o), (1, .int (nI i)), (2, .int (nI bx)), (3, .int (nI b))] [] (rM ac o ad (s.1) M0) (fun rv M' => rv = none ∧ M' = rM ac o ad ((wr3 s A (rsel s.1 2 i bx) (rsel s.1 3 i bx + rsel s.1 4 i bx) (gB s.1 25 (i - b)) (gB s.1 26 (i - b)) wh0 wh1).1) M0) := by
  refine V_ar_n d_Mod_writeRule_17 rfl ?_
  refine VR_geta d_Mod_writeRule_18 f_Mod_13 (by decide) ?_
  refine V_iload_n d_Mod_writeRule_21 rfl ?_
  refine VR_iald hA d_Mod_writeRule_22 rfl (by omega) (by decide) ?_
  refine V_ldc d_Mod_writeRule_23 k_Mod_115 ?_
  refine V_icmp_ne 37 d_Mod_writeRule_25 (by decide) (fun h25 => ?_) (fun h25 => ?_)
  · refine V_ar_n d_Mod_writeRule_37 rfl ?_
    refine VR_geta d_Mod_writeRule_38 f_Mod_13 (by decide) ?_
    refine V_iload_n d_Mod_writeRule_41 rfl ?_
    refine VR_iald hA d_Mod_writeRule_42 rfl (by omega) (by decide) ?_
    refine V_eqi (show _ = rsel s.1 2 i bx from (if_neg h25).symm) ?_
    refine V_istore (lv' := [(5, .int (rsel s.1 2 i bx)), (4, .int A), (0, .ref o), (1, .int (nI i)), (2, .int (nI bx)), (3, .int (nI b))]) d_Mod_writeRule_43 (by decide) rfl ?_
    exact Mod_wr_45 hA hi hbx hbi hib hs hb hw0 hw1 h6 h7
  · refine V_ar_n d_Mod_writeRule_28 rfl ?_
    refine VR_geta d_Mod_writeRule_29 f_Mod_13 (by decide) ?_
    refine V_iload_n d_Mod_writeRule_32 rfl ?_
    refine VR_iald hA d_Mod_writeRule_33 rfl (by omega) (by decide) ?_
    refine V_goto 43 d_Mod_writeRule_34 (by decide) ?_
    refine V_eqi (show _ = rsel s.1 2 i bx from (if_pos (Classical.not_not.mp h25)).symm) ?_
    refine V_istore (lv' := [(5, .int (rsel s.1 2 i bx)), (4, .int A), (0, .ref o), (1, .int (nI i)), (2, .int (nI bx)), (3, .int (nI b))]) d_Mod_writeRule_43 (by decide) rfl ?_
    exact Mod_wr_45 hA hi hbx hbi hib hs hb hw0 hw1 h6 h7
set_option maxRecDepth 100000 in
set_option maxHeartbeats 4000000 in
theorem Mod_writeRule {l : Launch} {D : va_G} {ac : Nat → ClassId} {o : Nat} {ad : Nat → Nat} {s : FS} (hA : rAD o ad) {i bx b wh0 wh1 : Nat} (hi : i < 6200) (hbx : bx < 6200) (hbi : b ≤ i) (hib : i - b < 3100) (hs : okf s) (hb : s.2 + 19 ≤ 320000) (hw0 : wh0 ≤ 1) (hw1 : wh1 ≤ 1) (h6 : gB s.1 31 6 = nI wh0) (h7x : gB s.1 31 7 = nI wh1) : RCv l D ac o ad t_Mod_writeRule [.int (nI i), .int (nI bx), .int (nI b)] s.1 (wru s i bx b wh0 wh1).1 := fun M0 => by
  refine Ct_of (by decide) (Nat.le_of_ble_eq_true rfl) ?_
  refine V_ar_n d_Mod_writeRule_0 rfl ?_
  refine VR_geta d_Mod_writeRule_1 f_Mod_7 (by decide) ?_
  refine V_iload_n d_Mod_writeRule_4 rfl ?_
  refine VR_iald hA d_Mod_writeRule_5 rfl (by omega) (by decide) ?_
  refine V_iconst (v := 4) d_Mod_writeRule_6 (by decide) ?_
  refine V_icmp_ne 14 d_Mod_writeRule_7 (by decide) (fun h7 => ?_) (fun h7 => ?_)
  · refine V_iconst (v := 0) d_Mod_writeRule_14 (by decide) ?_
    refine V_eqi (show _ = acr s.1 bx from (if_neg h7).symm) ?_
    refine V_istore (lv' := [(4, .int (acr s.1 bx)), (0, .ref o), (1, .int (nI i)), (2, .int (nI bx)), (3, .int (nI b))]) d_Mod_writeRule_15 (by decide) rfl ?_
    exact Mod_wr_17 hA hi hbx hbi hib hs hb hw0 hw1 h6 h7x
  · refine V_iconst (v := 1) d_Mod_writeRule_10 (by decide) ?_
    refine V_goto 15 d_Mod_writeRule_11 (by decide) ?_
    refine V_eqi (show _ = acr s.1 bx from (if_pos (Classical.not_not.mp h7)).symm) ?_
    refine V_istore (lv' := [(4, .int (acr s.1 bx)), (0, .ref o), (1, .int (nI i)), (2, .int (nI bx)), (3, .int (nI b))]) d_Mod_writeRule_15 (by decide) rfl ?_
    exact Mod_wr_17 hA hi hbx hbi hib hs hb hw0 hw1 h6 h7x
