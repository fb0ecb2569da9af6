/-! moves, characters, the saved moves -/
def gom (r : RS) (sd : Nat) (x : Int32) : Int64 := x.toInt64 - (gB r 31 sd).toInt64
def gow (r : RS) (sd : Nat) (x : Int32) (wh : Nat) : Nat := if (gB r 31 (2 + 2 * sd)).toInt64 = gom r sd x then 0 else if (gB r 31 (2 + 2 * sd + 1)).toInt64 = gom r sd x then 1 else wh
def gop (sd : Nat) : Nat := if sd = 0 then 147 else 161
def gos (r : RS) (n sd : Nat) (x : Int32) (w : Nat) (m : Int64) : RS := if (gB r 31 (2 + 2 * sd + w)).toInt64 = m then wrt 1 r n (nI (gop sd + 5 * w)) else w1 (wrt (nby m.toInt32) (wrt 1 r n (nI (gop sd + 5 * w + nby m.toInt32))) (n + 1) m.toInt32) 31 (2 + 2 * sd + w) m.toInt32
def goe (r : RS) (sd : Nat) (x : Int32) (w : Nat) : RS := w1 (w1 r 31 (6 + sd) (nI (1 - w))) 31 sd x
def gor (r : RS) (n sd : Nat) (x : Int32) (wh : Nat) : RS := if gom r sd x = 0 ∨ gF (szd r (gom r sd x)) 33 = 0 then szd r (gom r sd x) else goe (gos (szd r (gom r sd x)) n sd x (gow r sd x wh) (gom r sd x)) sd x (gow r sd x wh)
set_option maxRecDepth 100000 in
set_option maxHeartbeats 4000000 in
theorem Mod_go_172 {l : Launch} {D : va_G} {ac : Nat → ClassId} {o : Nat} {ad : Nat → Nat} {r : RS} {M0 : MP} (hA : rAD o ad) {sd w : Nat} {x : Int32} {m : Int64} (hsd : sd ≤ 1) (hw : w ≤ 1) : V l D (tyl ac) t_Mod_go 0 0 172 [(7, .int (nI w)), (6, .int (nI (gop sd))), (5, .int (nI (2 + 2 * sd))), (3, .long m), (0, .ref o), (1, .int (nI sd)), (2, .int x)] [] (rM ac o ad (r) M0) (fun rv M' => rv = none ∧ M' = rM ac o ad (goe r sd x w) M0) := by
  refine V_ar_n d_Mod_go_172 rfl ?_
  refine VR_geta d_Mod_go_173 f_Mod_78 (by decide) ?_
  refine V_bipush (v := nI 6) d_Mod_go_176 (by decide) ?_
  refine V_iload_n d_Mod_go_178 rfl ?_
  refine V_iadd d_Mod_go_179 ?_
  refine V_eqi (nI_add 6 sd) ?_
  refine V_iconst (v := nI 1) d_Mod_go_180 (by decide) ?_
  refine V_iload d_Mod_go_181 rfl ?_
  refine V_isub d_Mod_go_183 ?_
  refine V_eqi (pk_sub hw) ?_
  refine VR_iast hA d_Mod_go_184 rfl (by omega) (by decide) ?_
  refine V_ar_n d_Mod_go_185 rfl ?_
  refine VR_geta d_Mod_go_186 f_Mod_78 (by decide) ?_
  refine V_iload_n d_Mod_go_189 rfl ?_
  refine V_iload_n d_Mod_go_190 rfl ?_
  refine VR_iast hA d_Mod_go_191 rfl (by omega) (by decide) ?_
  exact V_return d_Mod_go_192 rfl ⟨rfl, rfl⟩
set_option maxRecDepth 100000 in
set_option maxHeartbeats 4000000 in
theorem Mod_go_97 {l : Launch} {D : va_G} {ac : Nat → ClassId} {o : Nat} {ad : Nat → Nat} {r : RS} {M0 : MP} (hA : rAD o ad) {n sd w : Nat} {x : Int32} {m : Int64} (hn : gF r 18 = nI n) (hb : n + 5 ≤ 320000) (hsd : sd ≤ 1) (hw : w ≤ 1) : V l D (tyl ac) t_Mod_go 0 0 97 [(6, .int (nI (gop sd))), (5, .int (nI (2 + 2 * sd))), (3, .long m), (0, .ref o), (1, .int (nI sd)), (2, .int x)] [.int (nI w)] (rM ac o ad (r) M0) (fun rv M' => rv = none ∧ M' = rM ac o ad (goe (gos r n sd x w m) sd x w) M0) := by
  refine V_istore (lv' := [(7, .int (nI w)), (6, .int (nI (gop sd))), (5, .int (nI (2 + 2 * sd))), (3, .long m), (0, .ref o), (1, .int (nI sd)), (2, .int x)]) d_Mod_go_97 (by decide) rfl ?_
  refine V_ar_n d_Mod_go_99 rfl ?_
  refine VR_geta d_Mod_go_100 f_Mod_78 (by decide) ?_
  refine V_iload d_Mod_go_103 rfl ?_
  refine V_iload d_Mod_go_105 rfl ?_
  refine V_iadd d_Mod_go_107 ?_
  refine V_eqi (nI_add _ _) ?_
  refine VR_iald hA d_Mod_go_108 rfl (by omega) (by decide) ?_
  refine V_i2l d_Mod_go_109 ?_
  refine V_lload_n d_Mod_go_110 rfl ?_
  refine V_lcmp d_Mod_go_111 ?_
  refine V_if_ne 130 d_Mod_go_112 (by decide) (fun h112 => ?_) (fun h112 => ?_)
  · have hne : ¬ (gB r 31 (2 + 2 * sd + w)).toInt64 = m := fun z => h112 ((lg_cmp_eq _ _).mpr z)
    have hby := nby_le m.toInt32
    refine V_lload_n d_Mod_go_130 rfl ?_
    refine V_l2i d_Mod_go_131 ?_
    refine VS_ci1 d_Mod_go_132 c_Mod_173 (Mod_bytes _) ⟨by decide, by decide⟩ (Nat.le_of_ble_eq_true rfl) ?_
    refine V_istore (lv' := [(8, .int (nI (nby m.toInt32))), (7, .int (nI w)), (6, .int (nI (gop sd))), (5, .int (nI (2 + 2 * sd))), (3, .long m), (0, .ref o), (1, .int (nI sd)), (2, .int x)]) d_Mod_go_135 (by decide) rfl ?_
    refine V_ar_n d_Mod_go_137 rfl ?_
    refine V_iload d_Mod_go_138 rfl ?_
    refine V_iconst (v := nI 5) d_Mod_go_140 (by decide) ?_
    refine V_iload d_Mod_go_141 rfl ?_
    refine V_imul d_Mod_go_143 ?_
    refine V_eqi (pk_mul 5 w) ?_
    refine V_iadd d_Mod_go_144 ?_
    refine V_eqi (nI_add _ _) ?_
    refine V_iload d_Mod_go_145 rfl ?_
    refine V_iadd d_Mod_go_147 ?_
    refine V_eqi (nI_add _ _) ?_
    refine V_iconst (v := nI 1) d_Mod_go_148 (by decide) ?_
    refine VR_cv2 d_Mod_go_149 c_Mod_149 (Mod_write hA _ (hn) (by decide) (by omega)) ⟨by decide, by decide⟩ rfl (Nat.le_of_ble_eq_true rfl) ?_
    refine V_ar_n d_Mod_go_152 rfl ?_
    refine V_lload_n d_Mod_go_153 rfl ?_
    refine V_l2i d_Mod_go_154 ?_
    refine V_iload d_Mod_go_155 rfl ?_
    refine VR_cv2 d_Mod_go_157 c_Mod_149 (Mod_write hA _ (wrt_len 1 hn) (hby.2) (by omega)) ⟨by decide, by decide⟩ rfl (Nat.le_of_ble_eq_true rfl) ?_
    refine V_ar_n d_Mod_go_160 rfl ?_
    refine VR_geta d_Mod_go_161 f_Mod_78 (by decide) ?_
    refine V_iload d_Mod_go_164 rfl ?_
    refine V_iload d_Mod_go_166 rfl ?_
    refine V_iadd d_Mod_go_168 ?_
    refine V_eqi (nI_add _ _) ?_
    refine V_lload_n d_Mod_go_169 rfl ?_
    refine V_l2i d_Mod_go_170 ?_
    refine VR_iast hA d_Mod_go_171 rfl (by omega) (by decide) ?_
    refine V_lv [1, 2, 3, 4, 5, 6, 7] rfl ?_
    rw [gos, if_neg hne]
    exact Mod_go_172 hA hsd hw
  · have hne : (gB r 31 (2 + 2 * sd + w)).toInt64 = m := (lg_cmp_eq _ _).mp (Classical.not_not.mp h112)
    refine V_ar_n d_Mod_go_115 rfl ?_
    refine V_iload d_Mod_go_116 rfl ?_
    refine V_iconst (v := nI 5) d_Mod_go_118 (by decide) ?_
    refine V_iload d_Mod_go_119 rfl ?_
    refine V_imul d_Mod_go_121 ?_
    refine V_eqi (pk_mul 5 w) ?_
    refine V_iadd d_Mod_go_122 ?_
    refine V_eqi (nI_add _ _) ?_
    refine V_iconst (v := nI 1) d_Mod_go_123 (by decide) ?_
    refine VR_cv2 d_Mod_go_124 c_Mod_149 (Mod_write hA _ (hn) (by decide) (by omega)) ⟨by decide, by decide⟩ rfl (Nat.le_of_ble_eq_true rfl) ?_
    refine V_goto 172 d_Mod_go_127 (by decide) ?_
    rw [gos, if_pos hne]
    exact Mod_go_172 hA hsd hw
set_option maxRecDepth 100000 in
set_option maxHeartbeats 4000000 in
theorem Mod_go_52 {l : Launch} {D : va_G} {ac : Nat → ClassId} {o : Nat} {ad : Nat → Nat} {r : RS} {M0 : MP} (hA : rAD o ad) {n sd wh : Nat} {x : Int32} {m : Int64} (hn : gF r 18 = nI n) (hb : n + 5 ≤ 320000) (hsd : sd ≤ 1) (hw : wh ≤ 1) (hwh : gB r 31 (6 + sd) = nI wh) : V l D (tyl ac) t_Mod_go 0 0 52 [(6, .int (nI (gop sd))), (5, .int (nI (2 + 2 * sd))), (3, .long m), (0, .ref o), (1, .int (nI sd)), (2, .int x)] [] (rM ac o ad (r) M0) (fun rv M' => rv = none ∧ M' = rM ac o ad (goe (gos r n sd x (if (gB r 31 (2 + 2 * sd)).toInt64 = m then 0 else if (gB r 31 (2 + 2 * sd + 1)).toInt64 = m then 1 else wh) m) sd x (if (gB r 31 (2 + 2 * sd)).toInt64 = m then 0 else if (gB r 31 (2 + 2 * sd + 1)).toInt64 = m then 1 else wh)) M0) := by
  refine V_ar_n d_Mod_go_52 rfl ?_
  refine VR_geta d_Mod_go_53 f_Mod_78 (by decide) ?_
  refine V_iload d_Mod_go_56 rfl ?_
  refine VR_iald hA d_Mod_go_58 rfl (by omega) (by decide) ?_
  refine V_i2l d_Mod_go_59 ?_
  refine V_lload_n d_Mod_go_60 rfl ?_
  refine V_lcmp d_Mod_go_61 ?_
  refine V_if_ne 69 d_Mod_go_62 (by decide) (fun h62 => ?_) (fun h62 => ?_)
  · have n1 : ¬ (gB r 31 (2 + 2 * sd)).toInt64 = m := fun z => h62 ((lg_cmp_eq _ _).mpr z)
    refine V_ar_n d_Mod_go_69 rfl ?_
    refine VR_geta d_Mod_go_70 f_Mod_78 (by decide) ?_
    refine V_iload d_Mod_go_73 rfl ?_
    refine V_iconst (v := nI 1) d_Mod_go_75 (by decide) ?_
    refine V_iadd d_Mod_go_76 ?_
    refine V_eqi (nI_add _ _) ?_
    refine VR_iald hA d_Mod_go_77 rfl (by omega) (by decide) ?_
    refine V_i2l d_Mod_go_78 ?_
    refine V_lload_n d_Mod_go_79 rfl ?_
    refine V_lcmp d_Mod_go_80 ?_
    refine V_if_ne 88 d_Mod_go_81 (by decide) (fun h81 => ?_) (fun h81 => ?_)
    · have n2 : ¬ (gB r 31 (2 + 2 * sd + 1)).toInt64 = m := fun z => h81 ((lg_cmp_eq _ _).mpr z)
      refine V_ar_n d_Mod_go_88 rfl ?_
      refine VR_geta d_Mod_go_89 f_Mod_78 (by decide) ?_
      refine V_bipush (v := nI 6) d_Mod_go_92 (by decide) ?_
      refine V_iload_n d_Mod_go_94 rfl ?_
      refine V_iadd d_Mod_go_95 ?_
      refine V_eqi (nI_add 6 sd) ?_
      refine VR_iald hA d_Mod_go_96 rfl (by omega) (by decide) ?_
      refine V_eqi (show _ = nI wh from hwh) ?_
      rw [if_neg n1, if_neg n2]
      exact Mod_go_97 hA hn hb hsd hw
    · have n2 : (gB r 31 (2 + 2 * sd + 1)).toInt64 = m := (lg_cmp_eq _ _).mp (Classical.not_not.mp h81)
      refine V_iconst (v := nI 1) d_Mod_go_84 (by decide) ?_
      refine V_goto 97 d_Mod_go_85 (by decide) ?_
      rw [if_neg n1, if_pos n2]
      exact Mod_go_97 hA hn hb hsd (by omega)
  · have n1 : (gB r 31 (2 + 2 * sd)).toInt64 = m := (lg_cmp_eq _ _).mp (Classical.not_not.mp h62)
    refine V_iconst (v := nI 0) d_Mod_go_65 (by decide) ?_
    refine V_goto 97 d_Mod_go_66 (by decide) ?_
    rw [if_pos n1]
    exact Mod_go_97 hA hn hb hsd (by omega)
set_option maxRecDepth 100000 in
set_option maxHeartbeats 4000000 in
theorem Mod_go {l : Launch} {D : va_G} {ac : Nat → ClassId} {o : Nat} {ad : Nat → Nat} {r : RS} (hA : rAD o ad) {n sd wh : Nat} (x : Int32) (hn : gF r 18 = nI n) (hb : n + 5 ≤ 320000) (hsd : sd ≤ 1) (hw : wh ≤ 1) (hwh : gB r 31 (6 + sd) = nI wh) : RCv l D ac o ad t_Mod_go [.int (nI sd), .int x] r (gor r n sd x wh) := fun M0 => by
  refine Ct_of (by decide) (Nat.le_of_ble_eq_true rfl) ?_
  refine V_iload_n d_Mod_go_0 rfl ?_
  refine V_i2l d_Mod_go_1 ?_
  refine V_ar_n d_Mod_go_2 rfl ?_
  refine VR_geta d_Mod_go_3 f_Mod_78 (by decide) ?_
  refine V_iload_n d_Mod_go_6 rfl ?_
  refine VR_iald hA d_Mod_go_7 rfl (by omega) (by decide) ?_
  refine V_i2l d_Mod_go_8 ?_
  refine V_lsub d_Mod_go_9 ?_
  refine V_lstore_n (lv' := [(3, .long (gom r sd x)), (0, .ref o), (1, .int (nI sd)), (2, .int x)]) d_Mod_go_10 (by decide) rfl ?_
  refine V_ar_n d_Mod_go_11 rfl ?_
  refine V_lload_n d_Mod_go_12 rfl ?_
  refine VR_cv1 d_Mod_go_13 c_Mod_163 (Mod_sized _) ⟨by decide, by decide⟩ rfl (Nat.le_of_ble_eq_true rfl) ?_
  refine V_lload_n d_Mod_go_16 rfl ?_
  refine V_lconst (v := 0) d_Mod_go_17 (by decide) ?_
  refine V_lcmp d_Mod_go_18 ?_
  refine V_if_eq 29 d_Mod_go_19 (by decide) (fun h19 => ?_) (fun h19 => ?_)
  · exact V_return d_Mod_go_29 rfl ⟨rfl, by rw [gor, if_pos (Or.inl ((lg_cmp_eq _ _).mp h19))]⟩
  · refine V_ar_n d_Mod_go_22 rfl ?_
    refine VR_geti d_Mod_go_23 f_Mod_156 (by decide) ?_
    refine V_if_ne 30 d_Mod_go_26 (by decide) (fun h26 => ?_) (fun h26 => ?_)
    · have hc : ¬ (gom r sd x = 0 ∨ gF (szd r (gom r sd x)) 33 = 0) := fun z => z.elim (fun y => h19 ((lg_cmp_eq _ _).mpr y)) h26
      rw [gor, if_neg hc]
      refine V_iconst (v := nI 2) d_Mod_go_30 (by decide) ?_
      refine V_iconst (v := nI 2) d_Mod_go_31 (by decide) ?_
      refine V_iload_n d_Mod_go_32 rfl ?_
      refine V_imul d_Mod_go_33 ?_
      refine V_eqi (pk_mul 2 sd) ?_
      refine V_iadd d_Mod_go_34 ?_
      refine V_eqi (nI_add _ _) ?_
      refine V_istore (lv' := [(5, .int (nI (2 + 2 * sd))), (3, .long (gom r sd x)), (0, .ref o), (1, .int (nI sd)), (2, .int x)]) d_Mod_go_35 (by decide) rfl ?_
      refine V_iload_n d_Mod_go_37 rfl ?_
      refine V_if_ne 47 d_Mod_go_38 (by decide) (fun h38 => ?_) (fun h38 => ?_)
      · have hs : sd = 1 := by
          rcases Nat.eq_zero_or_pos sd with z | z
          · exact absurd (by rw [z]; rfl) h38
          · omega
        refine V_sipush (v := nI 161) d_Mod_go_47 (by decide) ?_
        refine V_eqi (show _ = nI (gop sd) from by rw [hs]; rfl) ?_
        refine V_istore (lv' := [(6, .int (nI (gop sd))), (5, .int (nI (2 + 2 * sd))), (3, .long (gom r sd x)), (0, .ref o), (1, .int (nI sd)), (2, .int x)]) d_Mod_go_50 (by decide) rfl ?_
        exact Mod_go_52 (r := szd r (gom r sd x)) hA hn hb hsd hw hwh
      · have hs : sd = 0 := (nI_eq (by omega) (by decide)).mp (Classical.not_not.mp h38)
        refine V_sipush (v := nI 147) d_Mod_go_41 (by decide) ?_
        refine V_goto 50 d_Mod_go_44 (by decide) ?_
        refine V_eqi (show _ = nI (gop sd) from by rw [hs]; rfl) ?_
        refine V_istore (lv' := [(6, .int (nI (gop sd))), (5, .int (nI (2 + 2 * sd))), (3, .long (gom r sd x)), (0, .ref o), (1, .int (nI sd)), (2, .int x)]) d_Mod_go_50 (by decide) rfl ?_
        exact Mod_go_52 (r := szd r (gom r sd x)) hA hn hb hsd hw hwh
    · exact V_return d_Mod_go_29 rfl ⟨rfl, by rw [gor, if_pos (Or.inr (Classical.not_not.mp h26))]⟩
def bya (r : RS) (n : Nat) (x : Int32) : Int32 := if ¬ x < 0 ∧ x < nI n then gB r 17 x.toNatClampNeg &&& 255 else -1
theorem nI_n {x : Int32} {n : Nat} (hn : n < 2 ^ 31) (h0 : ¬ x < 0) (h1 : x < nI n) : ∃ m, m < n ∧ x = nI m := by
  obtain ⟨j, hj, e⟩ := nI_of h0
  refine ⟨j, ?_, e⟩
  rw [e] at h1
  exact (nI_ltI hj hn).mp h1
set_option maxRecDepth 100000 in
set_option maxHeartbeats 4000000 in
theorem Mod_byteAt {l : Launch} {D : va_G} {ac : Nat → ClassId} {o : Nat} {ad : Nat → Nat} {r : RS} (hA : rAD o ad) {n : Nat} (x : Int32) (hn : gF r 18 = nI n) (hb : n ≤ 320000) : RCi l D ac o ad t_Mod_byteAt [.int x] r (bya r n x) (sF r 0 0) := fun M0 => by
  refine Ct_of (by decide) (Nat.le_of_ble_eq_true rfl) ?_
  refine V_ar_n d_Mod_byteAt_0 rfl ?_
  refine V_iconst (v := 0) d_Mod_byteAt_1 (by decide) ?_
  refine VR_puti d_Mod_byteAt_2 f_Mod_81 (by decide) ?_
  refine V_iload_n d_Mod_byteAt_5 rfl ?_
  refine V_if_lt 17 d_Mod_byteAt_6 (by decide) (fun h6 => ?_) (fun h6 => ?_)
  · refine V_iconst (v := (-1)) d_Mod_byteAt_17 (by decide) ?_
    refine V_goto 31 d_Mod_byteAt_18 (by decide) ?_
    exact V_ireturn d_Mod_byteAt_31 rfl ⟨by rw [bya, if_neg (fun z => z.1 h6)], rfl⟩
  · refine V_iload_n d_Mod_byteAt_9 rfl ?_
    refine V_ar_n d_Mod_byteAt_10 rfl ?_
    refine VR_geti d_Mod_byteAt_11 f_Mod_145 (by decide) ?_
    refine V_eqi (show _ = nI n from hn) ?_
    refine V_icmp_lt 21 d_Mod_byteAt_14 (by decide) (fun h14 => ?_) (fun h14 => ?_)
    · obtain ⟨m, hm, rfl⟩ := nI_n (by omega) h6 h14
      refine V_ar_n d_Mod_byteAt_21 rfl ?_
      refine VR_geta d_Mod_byteAt_22 f_Mod_54 (by decide) ?_
      refine V_iload_n d_Mod_byteAt_25 rfl ?_
      refine VR_bald hA d_Mod_byteAt_26 rfl (by omega) (by decide) ?_
      refine V_sipush (v := 255) d_Mod_byteAt_27 (by decide) ?_
      refine V_iand d_Mod_byteAt_30 ?_
      exact V_ireturn d_Mod_byteAt_31 rfl ⟨by rw [bya, if_pos ⟨h6, h14⟩, nI_clamp (by omega)]; rfl, rfl⟩
    · refine V_iconst (v := (-1)) d_Mod_byteAt_17 (by decide) ?_
      refine V_goto 31 d_Mod_byteAt_18 (by decide) ?_
      exact V_ireturn d_Mod_byteAt_31 rfl ⟨by rw [bya, if_neg (fun z => h14 z.2)], rfl⟩
def cnt (r : RS) (x : Int32) : Int32 := if x = 0 then gF r 18 else if x = 1 then gF r 20 else if x = 2 then gF r 8 else if x = 3 then gF r 11 + shv r else if x = 4 then (if gF r 19 = 0 then 0 else 1) else -1
set_option maxRecDepth 100000 in
set_option maxHeartbeats 4000000 in
theorem Mod_count {l : Launch} {D : va_G} {ac : Nat → ClassId} {o : Nat} {ad : Nat → Nat} {r : RS} (hA : rAD o ad) (x : Int32) : RCi l D ac o ad t_Mod_count [.int x] r (cnt r x) (sF r 0 0) := fun M0 => by
  refine Ct_of (by decide) (Nat.le_of_ble_eq_true rfl) ?_
  refine V_ar_n d_Mod_count_0 rfl ?_
  refine V_iconst (v := 0) d_Mod_count_1 (by decide) ?_
  refine VR_puti d_Mod_count_2 f_Mod_81 (by decide) ?_
  refine V_iload_n d_Mod_count_5 rfl ?_
  refine V_if_ne 16 d_Mod_count_6 (by decide) (fun h6 => ?_) (fun h6 => ?_)
  · refine V_iload_n d_Mod_count_16 rfl ?_
    refine V_iconst (v := 1) d_Mod_count_17 (by decide) ?_
    refine V_icmp_ne 28 d_Mod_count_18 (by decide) (fun h18 => ?_) (fun h18 => ?_)
    · refine V_iload_n d_Mod_count_28 rfl ?_
      refine V_iconst (v := 2) d_Mod_count_29 (by decide) ?_
      refine V_icmp_ne 40 d_Mod_count_30 (by decide) (fun h30 => ?_) (fun h30 => ?_)
      · refine V_iload_n d_Mod_count_40 rfl ?_
        refine V_iconst (v := 3) d_Mod_count_41 (by decide) ?_
        refine V_icmp_ne 57 d_Mod_count_42 (by decide) (fun h42 => ?_) (fun h42 => ?_)
        · refine V_iload_n d_Mod_count_57 rfl ?_
          refine V_iconst (v := 4) d_Mod_count_58 (by decide) ?_
          refine V_icmp_ne 77 d_Mod_count_59 (by decide) (fun h59 => ?_) (fun h59 => ?_)
          · refine V_iconst (v := (-1)) d_Mod_count_77 (by decide) ?_
            exact V_ireturn d_Mod_count_78 rfl ⟨by rw [cnt, if_neg h6, if_neg h18, if_neg h30, if_neg h42, if_neg h59], rfl⟩
          · refine V_ar_n d_Mod_count_62 rfl ?_
            refine VR_geti d_Mod_count_63 f_Mod_204 (by decide) ?_
            refine V_if_eq 73 d_Mod_count_66 (by decide) (fun h66 => ?_) (fun h66 => ?_)
            · refine V_iconst (v := 0) d_Mod_count_73 (by decide) ?_
              refine V_goto 78 d_Mod_count_74 (by decide) ?_
              exact V_ireturn d_Mod_count_78 rfl ⟨by rw [cnt, if_neg h6, if_neg h18, if_neg h30, if_neg h42, if_pos (Classical.not_not.mp h59), if_pos (show gF r 19 = 0 from h66)], rfl⟩
            · refine V_iconst (v := 1) d_Mod_count_69 (by decide) ?_
              refine V_goto 78 d_Mod_count_70 (by decide) ?_
              exact V_ireturn d_Mod_count_78 rfl ⟨by rw [cnt, if_neg h6, if_neg h18, if_neg h30, if_neg h42, if_pos (Classical.not_not.mp h59), if_neg (show ¬ gF r 19 = 0 from h66)], rfl⟩
        · refine V_ar_n d_Mod_count_45 rfl ?_
          refine VR_geti d_Mod_count_46 f_Mod_90 (by decide) ?_
          refine V_ar_n d_Mod_count_49 rfl ?_
          refine VR_ci0 d_Mod_count_50 c_Mod_93 (Mod_shelved hA) ⟨by decide, by decide⟩ rfl (Nat.le_of_ble_eq_true rfl) ?_
          refine V_iadd d_Mod_count_53 ?_
          refine V_goto 78 d_Mod_count_54 (by decide) ?_
          exact V_ireturn d_Mod_count_78 rfl ⟨by rw [cnt, if_neg h6, if_neg h18, if_neg h30, if_pos (Classical.not_not.mp h42)]; rfl, rfl⟩
      · refine V_ar_n d_Mod_count_33 rfl ?_
        refine VR_geti d_Mod_count_34 f_Mod_97 (by decide) ?_
        refine V_goto 78 d_Mod_count_37 (by decide) ?_
        exact V_ireturn d_Mod_count_78 rfl ⟨by rw [cnt, if_neg h6, if_neg h18, if_pos (Classical.not_not.mp h30)]; rfl, rfl⟩
    · refine V_ar_n d_Mod_count_21 rfl ?_
      refine VR_geti d_Mod_count_22 f_Mod_214 (by decide) ?_
      refine V_goto 78 d_Mod_count_25 (by decide) ?_
      exact V_ireturn d_Mod_count_78 rfl ⟨by rw [cnt, if_neg h6, if_pos (Classical.not_not.mp h18)]; rfl, rfl⟩
  · refine V_ar_n d_Mod_count_9 rfl ?_
    refine VR_geti d_Mod_count_10 f_Mod_145 (by decide) ?_
    refine V_goto 78 d_Mod_count_13 (by decide) ?_
    exact V_ireturn d_Mod_count_78 rfl ⟨by rw [cnt, if_pos (Classical.not_not.mp h6)]; rfl, rfl⟩
abbrev sok (r : RS) (x y : Int32) : Prop := ¬ isf r x = 0 ∧ ¬ y < 0 ∧ y ≤ 2
def siz (r : RS) (p : Nat) (x y : Int32) : Int32 := if sok r x y then (if y = 0 then gB r 2 p else if y = 1 then gB r 3 p else gB r 4 p) else 0
set_option maxRecDepth 100000 in
set_option maxHeartbeats 4000000 in
theorem Mod_size {l : Launch} {D : va_G} {ac : Nat → ClassId} {o : Nat} {ad : Nat → Nat} {r : RS} (hA : rAD o ad) {k p : Nat} (x y : Int32) (hy : sok r x y → x = nI k ∧ k < 8 ∧ stt r k = nI p ∧ p < 6200) : RCi l D ac o ad t_Mod_size [.int x, .int y] r (siz r p x y) (sF r 0 0) := fun M0 => by
  refine Ct_of (by decide) (Nat.le_of_ble_eq_true rfl) ?_
  refine V_ar_n d_Mod_size_0 rfl ?_
  refine V_iconst (v := 0) d_Mod_size_1 (by decide) ?_
  refine VR_puti d_Mod_size_2 f_Mod_81 (by decide) ?_
  refine V_ar_n d_Mod_size_5 rfl ?_
  refine V_iload_n d_Mod_size_6 rfl ?_
  refine VR_ci1 d_Mod_size_7 c_Mod_142 (Mod_isFull hA x) ⟨by decide, by decide⟩ rfl (Nat.le_of_ble_eq_true rfl) ?_
  refine V_if_eq 22 d_Mod_size_10 (by decide) (fun h10 => ?_) (fun h10 => ?_)
  · refine V_iconst (v := 0) d_Mod_size_22 (by decide) ?_
    exact V_ireturn d_Mod_size_23 rfl ⟨by rw [siz, if_neg (fun z => z.1 h10)], rfl⟩
  · refine V_iload_n d_Mod_size_13 rfl ?_
    refine V_if_lt 22 d_Mod_size_14 (by decide) (fun h14 => ?_) (fun h14 => ?_)
    · refine V_iconst (v := 0) d_Mod_size_22 (by decide) ?_
      exact V_ireturn d_Mod_size_23 rfl ⟨by rw [siz, if_neg (fun z => z.2.1 h14)], rfl⟩
    · refine V_iload_n d_Mod_size_17 rfl ?_
      refine V_iconst (v := 2) d_Mod_size_18 (by decide) ?_
      refine V_icmp_le 24 d_Mod_size_19 (by decide) (fun h19 => ?_) (fun h19 => ?_)
      · have hok : sok r x y := ⟨h10, h14, h19⟩
        obtain ⟨hx, hk, hst, hp⟩ := hy hok
        subst hx
        refine V_ar_n d_Mod_size_24 rfl ?_
        refine V_iload_n d_Mod_size_25 rfl ?_
        refine VR_ci1 d_Mod_size_26 c_Mod_119 (Mod_start hA (by omega)) ⟨by decide, by decide⟩ rfl (Nat.le_of_ble_eq_true rfl) ?_
        refine V_eqi (show _ = nI p from hst) ?_
        refine V_istore_n (lv' := [(3, .int (nI p)), (0, .ref o), (1, .int (nI k)), (2, .int y)]) d_Mod_size_29 (by decide) rfl ?_
        refine V_iload_n d_Mod_size_30 rfl ?_
        refine V_if_ne 43 d_Mod_size_31 (by decide) (fun h31 => ?_) (fun h31 => ?_)
        · refine V_iload_n d_Mod_size_43 rfl ?_
          refine V_iconst (v := 1) d_Mod_size_44 (by decide) ?_
          refine V_icmp_ne 57 d_Mod_size_45 (by decide) (fun h45 => ?_) (fun h45 => ?_)
          · refine V_ar_n d_Mod_size_57 rfl ?_
            refine VR_geta d_Mod_size_58 f_Mod_19 (by decide) ?_
            refine V_iload_n d_Mod_size_61 rfl ?_
            refine VR_iald hA d_Mod_size_62 rfl (by omega) (by decide) ?_
            exact V_ireturn d_Mod_size_63 rfl ⟨by rw [siz, if_pos hok, if_neg h31, if_neg h45]; rfl, rfl⟩
          · refine V_ar_n d_Mod_size_48 rfl ?_
            refine VR_geta d_Mod_size_49 f_Mod_16 (by decide) ?_
            refine V_iload_n d_Mod_size_52 rfl ?_
            refine VR_iald hA d_Mod_size_53 rfl (by omega) (by decide) ?_
            refine V_goto 63 d_Mod_size_54 (by decide) ?_
            exact V_ireturn d_Mod_size_63 rfl ⟨by rw [siz, if_pos hok, if_neg h31, if_pos (Classical.not_not.mp h45)]; rfl, rfl⟩
        · refine V_ar_n d_Mod_size_34 rfl ?_
          refine VR_geta d_Mod_size_35 f_Mod_13 (by decide) ?_
          refine V_iload_n d_Mod_size_38 rfl ?_
          refine VR_iald hA d_Mod_size_39 rfl (by omega) (by decide) ?_
          refine V_goto 63 d_Mod_size_40 (by decide) ?_
          exact V_ireturn d_Mod_size_63 rfl ⟨by rw [siz, if_pos hok, if_pos (Classical.not_not.mp h31)]; rfl, rfl⟩
      · refine V_iconst (v := 0) d_Mod_size_22 (by decide) ?_
        exact V_ireturn d_Mod_size_23 rfl ⟨by rw [siz, if_neg (fun z => h19 z.2.2)], rfl⟩
