/-! Fonts.write, Track.goTo -/
theorem FE_t {F : FI} {v : Int32} {c jE : Nat} {L : List (Int32 × Nat)} (h : FE F ((v, c) :: L) jE) : FE (fadd F v c) L jE := h
def fnC (m : Nat) : Int32 := 65 + (nI m - nI m / 26 * 26)
def fnL (s : PS) (m : Nat) : List (Int32 × Nat) := [(243, 1), (nI m, 1), (0, 4), (s.2.2.1 0 m, 4), (s.2.2.1 1 m, 4), (0, 1), (1, 1), (fnC m, 1)]
def fnS (s : PS) (m : Nat) : PS := uF (uI s 30 (s.1 30 ||| 1 <<< (nI m &&& 31))) (fwr (xF s) (fnL s m))
theorem ifn_nI {m : Nat} (hm : m < 32) : ¬ ifn (nI m) = 0 := by
  rw [ifn, if_pos ⟨nI_pos (by omega), show ¬ nI 32 ≤ nI m from nI_ge hm (by decide)⟩]
  decide
set_option maxRecDepth 100000 in
set_option maxHeartbeats 4000000 in
theorem Fon_write {l : Launch} {D : va_G} {ac : Nat → ClassId} {adr : Nat → Nat} {s : PS} {Z M : MP} {jE : Nat} (hW : PW ac adr s Z M) {m : Nat} (hm : m < 32) (hE : FE (xF s) (fnL s m) jE) : Ct l D (tyl ac) t_Fon_write (bk jE (xF s) 0) (bs jE (xF s) 0) [.ref (adr 3), .int (nI m), .ref (adr 2)] M (fun x M' => x = none ∧ PW ac adr (fnS s m) Z M') := by
  refine Ct_of (by decide) (Nat.le_of_ble_eq_true rfl) ?_
  unfold fnL at hE
  refine V_iload_n d_Fon_write_0 rfl ?_
  refine VS_ci1N d_Fon_write_1 c_Fon_18 (PF_isFont _) ⟨by decide, by decide⟩ (Nat.le_of_ble_eq_true rfl) ?_
  refine V_if_ne 8 d_Fon_write_4 (by decide) (fun h4 => ?_) (fun h4 => ?_)
  · refine V_aload_n d_Fon_write_8 rfl (isr_ref _) ?_
    refine V_dup d_Fon_write_9 rfl ?_
    refine V_getf d_Fon_write_10 f_Fon_22 (PW_c hW (by omega) (fun _ => rfl)) rfl ?_
    refine V_iconst (v := 1) d_Fon_write_13 (by decide) ?_
    refine V_iload_n d_Fon_write_14 rfl ?_
    refine V_ishl d_Fon_write_15 ?_
    refine V_ior d_Fon_write_16 ?_
    refine VW_put hW (by omega) d_Fon_write_17 f_Fon_22 (fun _ => rfl) (rfl) (rfl) (Nat.le_of_ble_eq_true rfl) (fun _ => pC_us _) rfl rfl (fun M1 hW => ?_)
    refine V_aload_n d_Fon_write_20 rfl (isr_ref _) ?_
    refine V_sipush (v := 243) d_Fon_write_21 (by decide) ?_
    refine V_iconst (v := nI 1) d_Fon_write_24 (by decide) ?_
    refine VW_add hW [(nI m, 1), (0, 4), (s.2.2.1 0 m, 4), (s.2.2.1 1 m, 4), (0, 1), (1, 1), (fnC m, 1)] hE (by decide) d_Fon_write_25 c_Fon_26 ⟨by decide, by decide⟩ (Nat.le_of_ble_eq_true rfl) (fun M1 hW => ?_)
    replace hE := FE_t hE
    refine V_aload_n d_Fon_write_28 rfl (isr_ref _) ?_
    refine V_iload_n d_Fon_write_29 rfl ?_
    refine V_iconst (v := nI 1) d_Fon_write_30 (by decide) ?_
    refine VW_add hW [(0, 4), (s.2.2.1 0 m, 4), (s.2.2.1 1 m, 4), (0, 1), (1, 1), (fnC m, 1)] hE (by decide) d_Fon_write_31 c_Fon_26 ⟨by decide, by decide⟩ (Nat.le_of_ble_eq_true rfl) (fun M1 hW => ?_)
    replace hE := FE_t hE
    refine V_aload_n d_Fon_write_34 rfl (isr_ref _) ?_
    refine V_iconst (v := 0) d_Fon_write_35 (by decide) ?_
    refine V_iconst (v := nI 4) d_Fon_write_36 (by decide) ?_
    refine VW_add hW [(s.2.2.1 0 m, 4), (s.2.2.1 1 m, 4), (0, 1), (1, 1), (fnC m, 1)] hE (by decide) d_Fon_write_37 c_Fon_26 ⟨by decide, by decide⟩ (Nat.le_of_ble_eq_true rfl) (fun M1 hW => ?_)
    replace hE := FE_t hE
    refine V_aload_n d_Fon_write_40 rfl (isr_ref _) ?_
    refine V_aload_n d_Fon_write_41 rfl (isr_ref _) ?_
    refine V_getf d_Fon_write_42 f_Fon_9 (PW_c hW (by omega) (fun _ => rfl)) rfl ?_
    refine V_iload_n d_Fon_write_45 rfl ?_
    refine V_iald d_Fon_write_46 (PW_c (p := 7) hW (by omega) (fun _ => rfl)) (vp_in_nI hm (by decide)) ?_
    rw [nI_clamp (show m < 2 ^ 31 by omega)]
    refine V_iconst (v := nI 4) d_Fon_write_47 (by decide) ?_
    refine VW_add hW [(s.2.2.1 1 m, 4), (0, 1), (1, 1), (fnC m, 1)] hE (by decide) d_Fon_write_48 c_Fon_26 ⟨by decide, by decide⟩ (Nat.le_of_ble_eq_true rfl) (fun M1 hW => ?_)
    replace hE := FE_t hE
    refine V_aload_n d_Fon_write_51 rfl (isr_ref _) ?_
    refine V_aload_n d_Fon_write_52 rfl (isr_ref _) ?_
    refine V_getf d_Fon_write_53 f_Fon_15 (PW_c hW (by omega) (fun _ => rfl)) rfl ?_
    refine V_iload_n d_Fon_write_56 rfl ?_
    refine V_iald d_Fon_write_57 (PW_c (p := 8) hW (by omega) (fun _ => rfl)) (vp_in_nI hm (by decide)) ?_
    rw [nI_clamp (show m < 2 ^ 31 by omega)]
    refine V_iconst (v := nI 4) d_Fon_write_58 (by decide) ?_
    refine VW_add hW [(0, 1), (1, 1), (fnC m, 1)] hE (by decide) d_Fon_write_59 c_Fon_26 ⟨by decide, by decide⟩ (Nat.le_of_ble_eq_true rfl) (fun M1 hW => ?_)
    replace hE := FE_t hE
    refine V_aload_n d_Fon_write_62 rfl (isr_ref _) ?_
    refine V_iconst (v := 0) d_Fon_write_63 (by decide) ?_
    refine V_iconst (v := nI 1) d_Fon_write_64 (by decide) ?_
    refine VW_add hW [(1, 1), (fnC m, 1)] hE (by decide) d_Fon_write_65 c_Fon_26 ⟨by decide, by decide⟩ (Nat.le_of_ble_eq_true rfl) (fun M1 hW => ?_)
    replace hE := FE_t hE
    refine V_aload_n d_Fon_write_68 rfl (isr_ref _) ?_
    refine V_iconst (v := 1) d_Fon_write_69 (by decide) ?_
    refine V_iconst (v := nI 1) d_Fon_write_70 (by decide) ?_
    refine VW_add hW [(fnC m, 1)] hE (by decide) d_Fon_write_71 c_Fon_26 ⟨by decide, by decide⟩ (Nat.le_of_ble_eq_true rfl) (fun M1 hW => ?_)
    replace hE := FE_t hE
    refine V_aload_n d_Fon_write_74 rfl (isr_ref _) ?_
    refine V_bipush (v := 65) d_Fon_write_75 (by decide) ?_
    refine V_iload_n d_Fon_write_77 rfl ?_
    refine V_bipush (v := 26) d_Fon_write_78 (by decide) ?_
    refine V_irem d_Fon_write_80 (by decide) ?_
    refine V_iadd d_Fon_write_81 ?_
    refine V_iconst (v := nI 1) d_Fon_write_82 (by decide) ?_
    refine VW_add hW [] hE (by decide) d_Fon_write_83 c_Fon_26 ⟨by decide, by decide⟩ (Nat.le_of_ble_eq_true rfl) (fun M1 hW => ?_)
    replace hE := FE_t hE
    exact V_return d_Fon_write_86 rfl ⟨rfl, hW⟩
  · exact absurd (ifn_nI hm) h4
def isTk (ac : Nat → ClassId) (adr : Nat → Nat) (p : Nat) (cmd : Int32) (k : Nat) : Prop := p < 9 ∧ (∀ s ra, pC ac adr ra s p = tre cmd (xT s k)) ∧ ∀ s ra t, va_up (pC ac adr ra s) p (tre cmd t) = pC ac adr ra (uT s k t)
theorem isTk0 (ac : Nat → ClassId) (adr : Nat → Nat) : isTk ac adr 4 147 0 := ⟨by decide, fun _ _ => rfl, fun _ _ _ => pC_t0 _⟩
theorem isTk1 (ac : Nat → ClassId) (adr : Nat → Nat) : isTk ac adr 5 161 1 := ⟨by decide, fun _ _ => rfl, fun _ _ _ => pC_t1 _⟩
def gmv (x : Int32) (t : TR) : Int64 := x.toInt64 - t.1.toInt64
abbrev gIs (m : Int64) (t : TR) : Prop := ¬ m = t.2.1.toInt64 ∧ (m = t.2.2.1.toInt64 ∨ ¬ bI t.2.2.2 = 0)
def gkp (m : Int64) (t : TR) : Int32 := if gIs m t then t.2.2.1 else t.2.1
def gby (m : Int64) (t : TR) : Nat := if m = (gkp m t).toInt64 then 0 else nbl m
def gcm (cmd : Int32) (m : Int64) (t : TR) : Int32 := (if gIs m t then cmd + 5 else cmd) + nI (gby m t)
def gL1 (cmd : Int32) (m : Int64) (t : TR) : List (Int32 × Nat) := [(gcm cmd m t, 1), (m.toInt32, gby m t)]
def gT1 (x : Int32) (m : Int64) (t : TR) : TR := if gIs m t then (x, t.2.1, m.toInt32, false) else (x, m.toInt32, t.2.2.1, true)
def goL (cmd x : Int32) (t : TR) : List (Int32 × Nat) := if gmv x t = 0 then [] else if iszl (gmv x t) = 0 then [] else gL1 cmd (gmv x t) t
def goT (x : Int32) (t : TR) : TR := if gmv x t = 0 then t else if iszl (gmv x t) = 0 then t else gT1 x (gmv x t) t
def goA (x : Int32) (t : TR) : Int32 := if gmv x t = 0 then 1 else if iszl (gmv x t) = 0 then 0 else 1
def goS (s : PS) (k : Nat) (cmd x : Int32) : PS := uF (uT s k (goT x (xT s k))) (fwr (xF s) (goL cmd x (xT s k)))
theorem gby_le (m : Int64) (t : TR) : gby m t ≤ 4 := by
  unfold gby
  split
  · omega
  · exact (nbl_le m).2
theorem va_uu3 {α : Type} (f : Nat → α) (k : Nat) (x y z : α) : va_up (va_up (va_up f k x) k y) k z = va_up f k z := by rw [bx_uu, bx_uu]
set_option maxRecDepth 100000 in
set_option maxHeartbeats 4000000 in
theorem Trk_goTo_60_1 {l : Launch} {D : va_G} {ac : Nat → ClassId} {adr : Nat → Nat} {s : PS} {Z M : MP} {jE : Nat} (hW : PW ac adr s Z M) {p k : Nat} {cmd x : Int32} {m : Int64} (hT : isTk ac adr p cmd k) (hE : FE (xF s) (gL1 cmd m (xT s k)) jE) (hg : gIs m (xT s k)) : V l D (tyl ac) t_Trk_goTo (bk jE (xF s) 0) (bs jE (xF s) 0) 60 [(5, .int 1), (3, .long m), (0, .ref (adr p)), (1, .int x), (2, .ref (adr 2))] [] M (fun y M' => y = some (.int 1) ∧ PW ac adr (uF (uT s k (gT1 x m (xT s k))) (fwr (xF s) (gL1 cmd m (xT s k)))) Z M') := by
  have hp9 := hT.1
  have hkp : gkp m (xT s k) = (xT s k).2.2.1 := if_pos hg
  refine V_iload d_Trk_goTo_60 rfl ?_
  refine V_if_eq 72 d_Trk_goTo_62 (by decide) (fun h62 => ?_) (fun h62 => ?_)
  · exact absurd h62 (by decide)
  · refine V_aload_n d_Trk_goTo_65 rfl (isr_ref _) ?_
    refine V_getf d_Trk_goTo_66 f_Trk_21 (PW_c hW (by omega) (fun _ => hT.2.1 _ _)) rfl ?_
    refine V_goto 76 d_Trk_goTo_69 (by decide) ?_
    refine V_istore (lv' := [(6, .int ((xT s k).2.2.1)), (5, .int 1), (3, .long m), (0, .ref (adr p)), (1, .int x), (2, .ref (adr 2))]) d_Trk_goTo_76 (by decide) rfl ?_
    refine V_lload_n d_Trk_goTo_78 rfl ?_
    refine V_iload d_Trk_goTo_79 rfl ?_
    refine V_i2l d_Trk_goTo_81 ?_
    refine V_lcmp d_Trk_goTo_82 ?_
    have key : V l D (tyl ac) t_Trk_goTo (bk jE (xF s) 0) (bs jE (xF s) 0) 94 [(6, .int ((xT s k).2.2.1)), (5, .int 1), (3, .long m), (0, .ref (adr p)), (1, .int x), (2, .ref (adr 2))] [.int (nI (gby m (xT s k)))] M (fun y M' => y = some (.int 1) ∧ PW ac adr (uF (uT s k (gT1 x m (xT s k))) (fwr (xF s) (gL1 cmd m (xT s k)))) Z M') := by
      have hc4 := gby_le m (xT s k)
      refine V_istore (lv' := [(7, .int (nI (gby m (xT s k)))), (6, .int ((xT s k).2.2.1)), (5, .int 1), (3, .long m), (0, .ref (adr p)), (1, .int x), (2, .ref (adr 2))]) d_Trk_goTo_94 (by decide) rfl ?_
      refine V_aload_n d_Trk_goTo_96 rfl (isr_ref _) ?_
      refine V_iload d_Trk_goTo_97 rfl ?_
      refine V_if_eq 111 d_Trk_goTo_99 (by decide) (fun h99 => ?_) (fun h99 => ?_)
      · exact absurd h99 (by decide)
      · refine V_aload_n d_Trk_goTo_102 rfl (isr_ref _) ?_
        refine V_getf d_Trk_goTo_103 f_Trk_9 (PW_c hW (by omega) (fun _ => hT.2.1 _ _)) rfl ?_
        refine V_iconst (v := 5) d_Trk_goTo_106 (by decide) ?_
        refine V_iadd d_Trk_goTo_107 ?_
        refine V_goto 115 d_Trk_goTo_108 (by decide) ?_
        refine V_iload d_Trk_goTo_115 rfl ?_
        refine V_iadd d_Trk_goTo_117 ?_
        refine V_eqi (show _ = gcm cmd m (xT s k) by rw [gcm, if_pos hg]) ?_
        refine V_iconst (v := nI 1) d_Trk_goTo_118 (by decide) ?_
        refine VW_add hW [(m.toInt32, gby m (xT s k))] hE (by decide) d_Trk_goTo_119 c_Trk_36 ⟨by decide, by decide⟩ (Nat.le_of_ble_eq_true rfl) (fun M1 hW => ?_)
        replace hE := FE_t hE
        refine V_aload_n d_Trk_goTo_122 rfl (isr_ref _) ?_
        refine V_lload_n d_Trk_goTo_123 rfl ?_
        refine V_l2i d_Trk_goTo_124 ?_
        refine V_iload d_Trk_goTo_125 rfl ?_
        refine VW_add hW [] hE (hc4) d_Trk_goTo_127 c_Trk_36 ⟨by decide, by decide⟩ (Nat.le_of_ble_eq_true rfl) (fun M1 hW => ?_)
        replace hE := FE_t hE
        refine V_iload d_Trk_goTo_130 rfl ?_
        refine V_if_eq 144 d_Trk_goTo_132 (by decide) (fun h132 => ?_) (fun h132 => ?_)
        · exact absurd h132 (by decide)
        · refine V_aload_n d_Trk_goTo_135 rfl (isr_ref _) ?_
          refine V_lload_n d_Trk_goTo_136 rfl ?_
          refine V_l2i d_Trk_goTo_137 ?_
          refine VW_put hW (by omega) d_Trk_goTo_138 f_Trk_21 (fun _ => hT.2.1 _ _) (rfl) (rfl) (Nat.le_of_ble_eq_true rfl) (fun _ => hT.2.2 _ _ ((xT s k).1, (xT s k).2.1, m.toInt32, (xT s k).2.2.2)) rfl rfl (fun M1 hW => ?_)
          refine V_goto 150 d_Trk_goTo_141 (by decide) ?_
          refine V_aload_n d_Trk_goTo_150 rfl (isr_ref _) ?_
          refine V_iload d_Trk_goTo_151 rfl ?_
          refine V_if_ne 160 d_Trk_goTo_153 (by decide) (fun h153 => ?_) (fun h153 => ?_)
          · refine V_iconst (v := 0) d_Trk_goTo_160 (by decide) ?_
            refine VW_put hW (by omega) d_Trk_goTo_161 f_Trk_24 (fun _ => (hT.2.1 _ _).trans (congrArg (tre cmd) (va_up_self _ _ _))) (by decide) (by decide) (Nat.le_of_ble_eq_true rfl) (fun _ => hT.2.2 _ _ ((xT s k).1, (xT s k).2.1, m.toInt32, false)) rfl rfl (fun M1 hW => ?_)
            refine V_aload_n d_Trk_goTo_164 rfl (isr_ref _) ?_
            refine V_iload_n d_Trk_goTo_165 rfl ?_
            refine VW_put hW (by omega) d_Trk_goTo_166 f_Trk_15 (fun _ => (hT.2.1 _ _).trans (congrArg (tre cmd) (va_up_self _ _ _))) (rfl) (rfl) (Nat.le_of_ble_eq_true rfl) (fun _ => hT.2.2 _ _ (x, (xT s k).2.1, m.toInt32, false)) rfl rfl (fun M1 hW => ?_)
            refine V_iconst (v := 1) d_Trk_goTo_169 (by decide) ?_
            refine V_zreturn d_Trk_goTo_170 rfl (by decide) ⟨rfl, ?_⟩
            rw [gT1, if_pos hg]
            have e1 := va_uu3 (xT s) k ((xT s k).1, (xT s k).2.1, m.toInt32, (xT s k).2.2.2) ((xT s k).1, (xT s k).2.1, m.toInt32, false) (x, (xT s k).2.1, m.toInt32, false)
            show PW ac adr (s.1, s.2.1, s.2.2.1, va_up (xT s) k (x, (xT s k).2.1, m.toInt32, false), s.2.2.2.2.1, s.2.2.2.2.2.1, fwr (xF s) (gL1 cmd m (xT s k))) Z M1
            rw [← e1]
            exact hW
          · exact absurd (by decide) h153
    refine V_if_ne 90 d_Trk_goTo_83 (by decide) (fun h83 => ?_) (fun h83 => ?_)
    · refine V_lload_n d_Trk_goTo_90 rfl ?_
      refine VS_ci1 d_Trk_goTo_91 c_Trk_32 (Trk_fewestBytes _) ⟨by decide, by decide⟩ (Nat.le_of_ble_eq_true rfl) ?_
      refine V_eqi (show _ = nI (gby m (xT s k)) by rw [gby, hkp, if_neg (fun z => h83 ((lg_cmp_eq _ _).mpr z))]) ?_
      exact key
    · refine V_iconst (v := nI 0) d_Trk_goTo_86 (by decide) ?_
      refine V_goto 94 d_Trk_goTo_87 (by decide) ?_
      refine V_eqi (show _ = nI (gby m (xT s k)) by rw [gby, hkp, if_pos ((lg_cmp_eq _ _).mp (Classical.not_not.mp h83))]) ?_
      exact key
set_option maxRecDepth 100000 in
set_option maxHeartbeats 4000000 in
theorem Trk_goTo_60_0 {l : Launch} {D : va_G} {ac : Nat → ClassId} {adr : Nat → Nat} {s : PS} {Z M : MP} {jE : Nat} (hW : PW ac adr s Z M) {p k : Nat} {cmd x : Int32} {m : Int64} (hT : isTk ac adr p cmd k) (hE : FE (xF s) (gL1 cmd m (xT s k)) jE) (hg : ¬ gIs m (xT s k)) : V l D (tyl ac) t_Trk_goTo (bk jE (xF s) 0) (bs jE (xF s) 0) 60 [(5, .int 0), (3, .long m), (0, .ref (adr p)), (1, .int x), (2, .ref (adr 2))] [] M (fun y M' => y = some (.int 1) ∧ PW ac adr (uF (uT s k (gT1 x m (xT s k))) (fwr (xF s) (gL1 cmd m (xT s k)))) Z M') := by
  have hp9 := hT.1
  have hkp : gkp m (xT s k) = (xT s k).2.1 := if_neg hg
  refine V_iload d_Trk_goTo_60 rfl ?_
  refine V_if_eq 72 d_Trk_goTo_62 (by decide) (fun h62 => ?_) (fun h62 => ?_)
  · refine V_aload_n d_Trk_goTo_72 rfl (isr_ref _) ?_
    refine V_getf d_Trk_goTo_73 f_Trk_18 (PW_c hW (by omega) (fun _ => hT.2.1 _ _)) rfl ?_
    refine V_istore (lv' := [(6, .int ((xT s k).2.1)), (5, .int 0), (3, .long m), (0, .ref (adr p)), (1, .int x), (2, .ref (adr 2))]) d_Trk_goTo_76 (by decide) rfl ?_
    refine V_lload_n d_Trk_goTo_78 rfl ?_
    refine V_iload d_Trk_goTo_79 rfl ?_
    refine V_i2l d_Trk_goTo_81 ?_
    refine V_lcmp d_Trk_goTo_82 ?_
    have key : V l D (tyl ac) t_Trk_goTo (bk jE (xF s) 0) (bs jE (xF s) 0) 94 [(6, .int ((xT s k).2.1)), (5, .int 0), (3, .long m), (0, .ref (adr p)), (1, .int x), (2, .ref (adr 2))] [.int (nI (gby m (xT s k)))] M (fun y M' => y = some (.int 1) ∧ PW ac adr (uF (uT s k (gT1 x m (xT s k))) (fwr (xF s) (gL1 cmd m (xT s k)))) Z M') := by
      have hc4 := gby_le m (xT s k)
      refine V_istore (lv' := [(7, .int (nI (gby m (xT s k)))), (6, .int ((xT s k).2.1)), (5, .int 0), (3, .long m), (0, .ref (adr p)), (1, .int x), (2, .ref (adr 2))]) d_Trk_goTo_94 (by decide) rfl ?_
      refine V_aload_n d_Trk_goTo_96 rfl (isr_ref _) ?_
      refine V_iload d_Trk_goTo_97 rfl ?_
      refine V_if_eq 111 d_Trk_goTo_99 (by decide) (fun h99 => ?_) (fun h99 => ?_)
      · refine V_aload_n d_Trk_goTo_111 rfl (isr_ref _) ?_
        refine V_getf d_Trk_goTo_112 f_Trk_9 (PW_c hW (by omega) (fun _ => hT.2.1 _ _)) rfl ?_
        refine V_iload d_Trk_goTo_115 rfl ?_
        refine V_iadd d_Trk_goTo_117 ?_
        refine V_eqi (show _ = gcm cmd m (xT s k) by rw [gcm, if_neg hg]) ?_
        refine V_iconst (v := nI 1) d_Trk_goTo_118 (by decide) ?_
        refine VW_add hW [(m.toInt32, gby m (xT s k))] hE (by decide) d_Trk_goTo_119 c_Trk_36 ⟨by decide, by decide⟩ (Nat.le_of_ble_eq_true rfl) (fun M1 hW => ?_)
        replace hE := FE_t hE
        refine V_aload_n d_Trk_goTo_122 rfl (isr_ref _) ?_
        refine V_lload_n d_Trk_goTo_123 rfl ?_
        refine V_l2i d_Trk_goTo_124 ?_
        refine V_iload d_Trk_goTo_125 rfl ?_
        refine VW_add hW [] hE (hc4) d_Trk_goTo_127 c_Trk_36 ⟨by decide, by decide⟩ (Nat.le_of_ble_eq_true rfl) (fun M1 hW => ?_)
        replace hE := FE_t hE
        refine V_iload d_Trk_goTo_130 rfl ?_
        refine V_if_eq 144 d_Trk_goTo_132 (by decide) (fun h132 => ?_) (fun h132 => ?_)
        · refine V_aload_n d_Trk_goTo_144 rfl (isr_ref _) ?_
          refine V_lload_n d_Trk_goTo_145 rfl ?_
          refine V_l2i d_Trk_goTo_146 ?_
          refine VW_put hW (by omega) d_Trk_goTo_147 f_Trk_18 (fun _ => hT.2.1 _ _) (rfl) (rfl) (Nat.le_of_ble_eq_true rfl) (fun _ => hT.2.2 _ _ ((xT s k).1, m.toInt32, (xT s k).2.2.1, (xT s k).2.2.2)) rfl rfl (fun M1 hW => ?_)
          refine V_aload_n d_Trk_goTo_150 rfl (isr_ref _) ?_
          refine V_iload d_Trk_goTo_151 rfl ?_
          refine V_if_ne 160 d_Trk_goTo_153 (by decide) (fun h153 => ?_) (fun h153 => ?_)
          · exact absurd h153 (by decide)
          · refine V_iconst (v := 1) d_Trk_goTo_156 (by decide) ?_
            refine V_goto 161 d_Trk_goTo_157 (by decide) ?_
            refine VW_put hW (by omega) d_Trk_goTo_161 f_Trk_24 (fun _ => (hT.2.1 _ _).trans (congrArg (tre cmd) (va_up_self _ _ _))) (by decide) (by decide) (Nat.le_of_ble_eq_true rfl) (fun _ => hT.2.2 _ _ ((xT s k).1, m.toInt32, (xT s k).2.2.1, true)) rfl rfl (fun M1 hW => ?_)
            refine V_aload_n d_Trk_goTo_164 rfl (isr_ref _) ?_
            refine V_iload_n d_Trk_goTo_165 rfl ?_
            refine VW_put hW (by omega) d_Trk_goTo_166 f_Trk_15 (fun _ => (hT.2.1 _ _).trans (congrArg (tre cmd) (va_up_self _ _ _))) (rfl) (rfl) (Nat.le_of_ble_eq_true rfl) (fun _ => hT.2.2 _ _ (x, m.toInt32, (xT s k).2.2.1, true)) rfl rfl (fun M1 hW => ?_)
            refine V_iconst (v := 1) d_Trk_goTo_169 (by decide) ?_
            refine V_zreturn d_Trk_goTo_170 rfl (by decide) ⟨rfl, ?_⟩
            rw [gT1, if_neg hg]
            have e1 := va_uu3 (xT s) k ((xT s k).1, m.toInt32, (xT s k).2.2.1, (xT s k).2.2.2) ((xT s k).1, m.toInt32, (xT s k).2.2.1, true) (x, m.toInt32, (xT s k).2.2.1, true)
            show PW ac adr (s.1, s.2.1, s.2.2.1, va_up (xT s) k (x, m.toInt32, (xT s k).2.2.1, true), s.2.2.2.2.1, s.2.2.2.2.2.1, fwr (xF s) (gL1 cmd m (xT s k))) Z M1
            rw [← e1]
            exact hW
        · exact absurd (by decide) h132
      · exact absurd (by decide) h99
    refine V_if_ne 90 d_Trk_goTo_83 (by decide) (fun h83 => ?_) (fun h83 => ?_)
    · refine V_lload_n d_Trk_goTo_90 rfl ?_
      refine VS_ci1 d_Trk_goTo_91 c_Trk_32 (Trk_fewestBytes _) ⟨by decide, by decide⟩ (Nat.le_of_ble_eq_true rfl) ?_
      refine V_eqi (show _ = nI (gby m (xT s k)) by rw [gby, hkp, if_neg (fun z => h83 ((lg_cmp_eq _ _).mpr z))]) ?_
      exact key
    · refine V_iconst (v := nI 0) d_Trk_goTo_86 (by decide) ?_
      refine V_goto 94 d_Trk_goTo_87 (by decide) ?_
      refine V_eqi (show _ = nI (gby m (xT s k)) by rw [gby, hkp, if_pos ((lg_cmp_eq _ _).mp (Classical.not_not.mp h83))]) ?_
      exact key
  · exact absurd (by decide) h62
theorem va_up_id {α : Type} (f : Nat → α) (k : Nat) : va_up f k (f k) = f := by
  funext j
  unfold va_up
  split
  · next h => rw [h]
  · rfl
theorem PW_eq {ac : Nat → ClassId} {adr : Nat → Nat} {s s' : PS} {Z M : MP} (h : PW ac adr s Z M) (h1 : s'.1 = s.1) (h2 : (s'.2.1, s'.2.2.1) = (s.2.1, s.2.2.1)) (h3 : xT s' = xT s) (h4 : s'.2.2.2.2 = s.2.2.2.2) : PW ac adr s' Z M := by
  obtain ⟨a1, a2, a3, a4, a5⟩ := s
  obtain ⟨b1, b2, b3, b4, b5⟩ := s'
  simp only [Prod.mk.injEq] at h2
  obtain ⟨h2, h2'⟩ := h2
  cases h1; cases h2; cases h2'; cases h3; cases h4
  exact h
set_option maxRecDepth 100000 in
set_option maxHeartbeats 4000000 in
theorem Trk_goTo {l : Launch} {D : va_G} {ac : Nat → ClassId} {adr : Nat → Nat} {s : PS} {Z M : MP} {jE : Nat} (hW : PW ac adr s Z M) {p k : Nat} {cmd x : Int32} (hT : isTk ac adr p cmd k) (hE : FE (xF s) (goL cmd x (xT s k)) jE) : Ct l D (tyl ac) t_Trk_goTo (bk jE (xF s) 0) (bs jE (xF s) 0) [.ref (adr p), .int x, .ref (adr 2)] M (fun y M' => y = some (.int (goA x (xT s k))) ∧ PW ac adr (goS s k cmd x) Z M') := by
  refine Ct_of (by decide) (Nat.le_of_ble_eq_true rfl) ?_
  have hp9 := hT.1
  refine V_iload_n d_Trk_goTo_0 rfl ?_
  refine V_i2l d_Trk_goTo_1 ?_
  refine V_aload_n d_Trk_goTo_2 rfl (isr_ref _) ?_
  refine V_getf d_Trk_goTo_3 f_Trk_15 (PW_c hW (by omega) (fun _ => hT.2.1 _ _)) rfl ?_
  refine V_i2l d_Trk_goTo_6 ?_
  refine V_lsub d_Trk_goTo_7 ?_
  refine V_lstore_n (lv' := [(3, .long (gmv x (xT s k))), (0, .ref (adr p)), (1, .int x), (2, .ref (adr 2))]) d_Trk_goTo_8 (by decide) rfl ?_
  refine V_lload_n d_Trk_goTo_9 rfl ?_
  refine V_lconst (v := 0) d_Trk_goTo_10 (by decide) ?_
  refine V_lcmp d_Trk_goTo_11 ?_
  refine V_if_ne 17 d_Trk_goTo_12 (by decide) (fun h12 => ?_) (fun h12 => ?_)
  · refine V_lload_n d_Trk_goTo_17 rfl ?_
    refine VS_ci1N d_Trk_goTo_18 c_Trk_28 (PF_isSize _) ⟨by decide, by decide⟩ (Nat.le_of_ble_eq_true rfl) ?_
    have n0 : ¬ gmv x (xT s k) = 0 := fun z => h12 ((lg_cmp_eq _ _).mpr z)
    refine V_if_ne 26 d_Trk_goTo_21 (by decide) (fun h21 => ?_) (fun h21 => ?_)
    · unfold goS
      rw [goL, if_neg n0, if_neg h21] at hE ⊢
      rw [goT, if_neg n0, if_neg h21, goA, if_neg n0, if_neg h21]
      refine V_lload_n d_Trk_goTo_26 rfl ?_
      refine V_aload_n d_Trk_goTo_27 rfl (isr_ref _) ?_
      refine V_getf d_Trk_goTo_28 f_Trk_18 (PW_c hW (by omega) (fun _ => hT.2.1 _ _)) rfl ?_
      refine V_i2l d_Trk_goTo_31 ?_
      refine V_lcmp d_Trk_goTo_32 ?_
      refine V_if_eq 57 d_Trk_goTo_33 (by decide) (fun h33 => ?_) (fun h33 => ?_)
      · refine V_iconst (v := 0) d_Trk_goTo_57 (by decide) ?_
        refine V_istore (lv' := [(5, .int 0), (3, .long (gmv x (xT s k))), (0, .ref (adr p)), (1, .int x), (2, .ref (adr 2))]) d_Trk_goTo_58 (by decide) rfl ?_
        exact Trk_goTo_60_0 hW hT hE (fun z => z.1 ((lg_cmp_eq _ _).mp h33))
      · have n1 : ¬ gmv x (xT s k) = (xT s k).2.1.toInt64 := fun z => h33 ((lg_cmp_eq _ _).mpr z)
        refine V_lload_n d_Trk_goTo_36 rfl ?_
        refine V_aload_n d_Trk_goTo_37 rfl (isr_ref _) ?_
        refine V_getf d_Trk_goTo_38 f_Trk_21 (PW_c hW (by omega) (fun _ => hT.2.1 _ _)) rfl ?_
        refine V_i2l d_Trk_goTo_41 ?_
        refine V_lcmp d_Trk_goTo_42 ?_
        refine V_if_eq 53 d_Trk_goTo_43 (by decide) (fun h43 => ?_) (fun h43 => ?_)
        · refine V_iconst (v := 1) d_Trk_goTo_53 (by decide) ?_
          refine V_goto 58 d_Trk_goTo_54 (by decide) ?_
          refine V_istore (lv' := [(5, .int 1), (3, .long (gmv x (xT s k))), (0, .ref (adr p)), (1, .int x), (2, .ref (adr 2))]) d_Trk_goTo_58 (by decide) rfl ?_
          exact Trk_goTo_60_1 hW hT hE (⟨n1, Or.inl ((lg_cmp_eq _ _).mp h43)⟩)
        · have n2 : ¬ gmv x (xT s k) = (xT s k).2.2.1.toInt64 := fun z => h43 ((lg_cmp_eq _ _).mpr z)
          refine V_aload_n d_Trk_goTo_46 rfl (isr_ref _) ?_
          refine V_getf d_Trk_goTo_47 f_Trk_24 (PW_c hW (by omega) (fun _ => hT.2.1 _ _)) rfl ?_
          refine V_if_eq 57 d_Trk_goTo_50 (by decide) (fun h50 => ?_) (fun h50 => ?_)
          · refine V_iconst (v := 0) d_Trk_goTo_57 (by decide) ?_
            refine V_istore (lv' := [(5, .int 0), (3, .long (gmv x (xT s k))), (0, .ref (adr p)), (1, .int x), (2, .ref (adr 2))]) d_Trk_goTo_58 (by decide) rfl ?_
            exact Trk_goTo_60_0 hW hT hE (fun z => z.2.elim n2 (fun z => z h50))
          · refine V_iconst (v := 1) d_Trk_goTo_53 (by decide) ?_
            refine V_goto 58 d_Trk_goTo_54 (by decide) ?_
            refine V_istore (lv' := [(5, .int 1), (3, .long (gmv x (xT s k))), (0, .ref (adr p)), (1, .int x), (2, .ref (adr 2))]) d_Trk_goTo_58 (by decide) rfl ?_
            exact Trk_goTo_60_1 hW hT hE (⟨n1, Or.inr h50⟩)
    · refine V_iconst (v := 0) d_Trk_goTo_24 (by decide) ?_
      refine V_zreturn d_Trk_goTo_25 rfl (by decide) ⟨?_, ?_⟩
      · rw [goA, if_neg n0, if_pos (Classical.not_not.mp h21)]
      · rw [goS, goT, if_neg n0, if_pos (Classical.not_not.mp h21), goL, if_neg n0, if_pos (Classical.not_not.mp h21)]
        exact PW_eq hW rfl rfl (va_up_id _ _) rfl
  · refine V_iconst (v := 1) d_Trk_goTo_15 (by decide) ?_
    have n0 : gmv x (xT s k) = 0 := (lg_cmp_eq _ _).mp (Classical.not_not.mp h12)
    refine V_zreturn d_Trk_goTo_16 rfl (by decide) ⟨?_, ?_⟩
    · rw [goA, if_pos n0]
    · rw [goS, goT, if_pos n0, goL, if_pos n0]
      exact PW_eq hW rfl rfl (va_up_id _ _) rfl
