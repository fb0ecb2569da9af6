/-! PageFile's lists: open, and what joins the innermost one -/
theorem OpL_joinW {l : Launch} {D : va_G} {ac : Nat → ClassId} {adr : Nat → Nat} {s : PS} {Z M : MP} (hW : PW ac adr s Z M) {a b : Nat} {lo bo : Option Nat} {v le it ne bi bn : Int32} {ou fi nx bc : Value} {t : T3} {I Ic : Nat → Int32} (ha : Z a = some (.inr (6, olv v ou le fi (va_rf lo) it ne t))) (hb : Z b = some (.inr (5, itv I (va_rf bo) nx))) (hlo : ∀ c, lo = some c → ∃ nc, Z c = some (.inr (5, itv Ic bc nc)) ∧ c ≠ b) (hbo : ∀ q, bo = some q → ∃ bv bw bh bd bf, Z q = some (.inr (1, bxv bv bw bh bd bf bi bn))) : Ct l D (tyl ac) t_OpL_join 0 0 [.ref a, .ref b] M (fun r M' => r = none ∧ PW ac adr s (mu (jnM Z lo b Ic bc) a (.inr (6, olv v ou le (jfi lo fi b) (.ref b) (jit bo it bi) (jne bo ne bn) (olm v I t)))) M') := by
  refine Ct_mono (OpL_join (bi := bi) (bn := bn) (bc := bc) (Ic := Ic) (PW_z hW ha) (PW_z hW hb) (fun c hc => ?_) (fun q hq => ?_)) (fun r M' hq => ?_)
  · obtain ⟨nc, h1, h2⟩ := hlo c hc
    exact ⟨nc, PW_z hW h1, h2⟩
  · obtain ⟨bv, bw, bh, bd, bf, h1⟩ := hbo q hq
    exact ⟨bv, bw, bh, bd, bf, PW_z hW h1⟩
  · obtain ⟨rfl, rfl⟩ := hq
    refine ⟨rfl, ?_⟩
    cases lo with
    | none => exact PW_put hW ha _
    | some c =>
      obtain ⟨nc, h1, h2⟩ := hlo c rfl
      have hac : a ≠ c := fun z => by rw [z, h1] at ha; cases ha
      exact PW_put (PW_put hW h1 _) ((mu_ne _ _ hac).trans ha) _
/-- what is kept once a new item q joined list b -/
def adZ (Z : MP) (b q : Nat) (I : Nat → Int32) (bo lo : Option Nat) (Ic : Nat → Int32) (bc : Value) (v : Int32) (ou : Value) (le : Int32) (fi : Value) (it ne bi bn : Int32) (t : T3) : MP := mu (jnM (mu Z q (.inr (5, itv I (va_rf bo) .null))) lo q Ic bc) b (.inr (6, olv v ou le (jfi lo fi q) (.ref q) (jit bo it bi) (jne bo ne bn) (olm v I t)))
theorem opl_ne {Z : MP} {q : Nat} (hq : Z q = none) {a : Nat} {e : va_E} (ha : Z a = some e) : a ≠ q := fun z => by rw [z, hq] at ha; cases ha
theorem opl_mu {Z : MP} {q : Nat} (hq : Z q = none) {a : Nat} {e e' : va_E} (ha : Z a = some e) : mu Z q e' a = some e := (mu_ne _ _ (opl_ne hq ha)).trans ha
abbrev opc (s : PS) (le : Int32) : Prop := s.2.1 8 = none ∨ le < 100
theorem isz1_nz {v : Int32} (h : isz1 v) : narrow .boolean (.int v) = .int v := h.1
def opQ (ac : Nat → ClassId) (adr : Nat → Nat) (s : PS) (Z : MP) (v le : Int32) : Option Value → MP → Prop := fun r M' => if opc s le then ∃ q, Z q = none ∧ r = some (.int 1) ∧ PW ac adr (uR s 8 (some q)) (mu Z q (.inr (6, olv v (va_rf (s.2.1 8)) (olev (s.2.1 8) le) .null .null 0 0 (0, 0, 0)))) M' else r = some (.int 0) ∧ PW ac adr s Z M'
set_option maxRecDepth 100000 in
set_option maxHeartbeats 4000000 in
theorem PFo_21 {l : Launch} {D : va_G} {ac : Nat → ClassId} {adr : Nat → Nat} {s : PS} {Z M : MP} (hW : PW ac adr s Z M) {v le : Int32} (hz : isz1 v) (hle : ∀ b, s.2.1 8 = some b → ∃ fs, Z b = some (.inr (6, fs)) ∧ fs[2]? = some (.int le)) (hc : opc s le) : V l D (tyl ac) t_PF_open 1 10 21 [(0, .ref (adr 0)), (1, .int v)] [] M (opQ ac adr s Z v le) := by
  refine V_aload_n d_PF_open_21 rfl (isr_ref _) ?_
  refine V_new (k' := 0) (n' := 0) d_PF_open_22 n_PF_51 rfl rfl (fun q hq => ?_)
  obtain ⟨hW1, hZq⟩ := PW_new hW hq (.inr (6, olv 0 .null 0 .null .null 0 0 (0, 0, 0)))
  refine V_dup d_PF_open_25 rfl ?_
  refine V_iload_n d_PF_open_26 rfl ?_
  refine V_aload_n d_PF_open_27 rfl (isr_ref _) ?_
  refine V_getf d_PF_open_28 f_PF_46 (PW_c (p := 0) hW1 (by omega) (fun _ => rfl)) rfl ?_
  refine V_callI (As := [.int v, va_rf (s.2.1 8)]) (rest := [.ref q, .ref (adr 0)]) (b := q) (k' := 0) (n' := 0) d_PF_open_31 c_PF_55 ⟨by decide, by decide⟩ rfl rfl (Nat.le_of_ble_eq_true rfl) rfl rfl (OpL_init (le := le) hz (mu_self _ _ _) (fun b hb => ?_)) (fun x M1 hq9 => ?_)
  · obtain ⟨fs, h1, h2⟩ := hle b hb
    exact ⟨fs, PW_z hW1 (opl_mu hZq h1), h2, opl_ne hZq h1⟩
  · obtain ⟨rfl, rfl⟩ := hq9
    rw [mu_mu]
    have hW := (PW_new hW hq (.inr (6, olv v (va_rf (s.2.1 8)) (olev (s.2.1 8) le) .null .null 0 0 (0, 0, 0)))).1
    refine VW_put hW (by omega) d_PF_open_34 f_PF_46 (fun _ => rfl) (rfl) (rfl) (Nat.le_of_ble_eq_true rfl) (fun _ => pC_in (some q)) rfl rfl (fun M1 hW => ?_)
    refine V_iconst (v := 1) d_PF_open_37 (by decide) ?_
    exact V_zreturn d_PF_open_38 rfl nz1 (by rw [opQ, if_pos hc]; exact ⟨q, hZq, rfl, hW⟩)
set_option maxRecDepth 100000 in
set_option maxHeartbeats 4000000 in
theorem PF_open {l : Launch} {D : va_G} {ac : Nat → ClassId} {adr : Nat → Nat} {s : PS} {Z M : MP} (hW : PW ac adr s Z M) {v le : Int32} (hz : isz1 v) (hle : ∀ b, s.2.1 8 = some b → ∃ fs, Z b = some (.inr (6, fs)) ∧ fs[2]? = some (.int le)) : Ct l D (tyl ac) t_PF_open 1 10 [.ref (adr 0), .int v] M (opQ ac adr s Z v le) := by
  refine Ct_of (by decide) (Nat.le_of_ble_eq_true rfl) ?_
  refine V_aload_n d_PF_open_0 rfl (isr_ref _) ?_
  refine V_getf d_PF_open_1 f_PF_46 (PW_c hW (by omega) (fun _ => rfl)) rfl ?_
  cases hin : s.2.1 8 with
  | none =>
    refine V_ifnull 21 (isr_rf none) d_PF_open_4 (by decide) (fun h4 => ?_) (fun a4 h4 => ?_)
    · exact PFo_21 hW hz hle (Or.inl hin)
    · cases h4
  | some b =>
    obtain ⟨fs, hl1, hl2⟩ := hle b hin
    refine V_ifnull 21 (isr_rf (some b)) d_PF_open_4 (by decide) (fun h4 => ?_) (fun a4 h4 => ?_)
    · cases h4
    · refine V_aload_n d_PF_open_7 rfl (isr_ref _) ?_
      refine V_getf d_PF_open_8 f_PF_46 (PW_c hW (by omega) (fun _ => rfl)) rfl ?_
      rw [hin]
      refine V_getf d_PF_open_11 f_PF_50 (PW_z hW hl1) hl2 ?_
      refine V_bipush (v := 100) d_PF_open_14 (by decide) ?_
      refine V_icmp_lt 21 d_PF_open_16 (by decide) (fun h16 => ?_) (fun h16 => ?_)
      · exact PFo_21 hW hz hle (Or.inr h16)
      · refine V_iconst (v := 0) d_PF_open_19 (by decide) ?_
        exact V_zreturn d_PF_open_20 rfl nz0 (by rw [opQ, if_neg (fun z => z.elim (fun y => by rw [hin] at y; cases y) h16)]; exact ⟨rfl, hW⟩)
abbrev chc (s : PS) (v f c w h d : Int32) : Prop := v = 0 ∧ s.1 5 < 3000 ∧ ¬ ifn f = 0 ∧ ¬ c < 0 ∧ ¬ 256 ≤ c ∧ ¬ asz w.toInt64 h.toInt64 d.toInt64 = 0
set_option maxRecDepth 100000 in
set_option maxHeartbeats 4000000 in
theorem PF_character0 {l : Launch} {D : va_G} {ac : Nat → ClassId} {adr : Nat → Nat} {s : PS} {Z M : MP} (hW : PW ac adr s Z M) (hin : s.2.1 8 = none) (f c w h d : Int32) : Ct l D (tyl ac) t_PF_character 1 10 [.ref (adr 0), .int f, .int c, .int w, .int h, .int d] M (fun r M' => r = some (.int 0) ∧ PW ac adr s Z M') := by
  refine Ct_of (by decide) (Nat.le_of_ble_eq_true rfl) ?_
  refine V_aload_n d_PF_character_0 rfl (isr_ref _) ?_
  refine V_getf d_PF_character_1 f_PF_46 (PW_c hW (by omega) (fun _ => rfl)) rfl ?_
  rw [hin]
  refine V_ifnull 27 (isr_rf none) d_PF_character_4 (by decide) (fun h4 => ?_) (fun a4 h4 => ?_)
  · refine V_iconst (v := 0) d_PF_character_27 (by decide) ?_
    exact V_zreturn d_PF_character_28 rfl nz0 ⟨rfl, hW⟩
  · cases h4
set_option maxRecDepth 100000 in
set_option maxHeartbeats 4000000 in
theorem PF_character1 {l : Launch} {D : va_G} {ac : Nat → ClassId} {adr : Nat → Nat} {s : PS} {Z M : MP} (hW : PW ac adr s Z M) {b : Nat} (hin : s.2.1 8 = some b) {v le it ne : Int32} {lo : Option Nat} {ou fi bc : Value} {t : T3} {Ic : Nat → Int32} (ha : Z b = some (.inr (6, olv v ou le fi (va_rf lo) it ne t))) (hlo : ∀ c, lo = some c → ∃ nc, Z c = some (.inr (5, itv Ic bc nc))) (f c w h d : Int32) : Ct l D (tyl ac) t_PF_character 1 10 [.ref (adr 0), .int f, .int c, .int w, .int h, .int d] M (fun r M' => if chc s v f c w h d then ∃ q, Z q = none ∧ r = some (.int 1) ∧ PW ac adr (uI s 5 (s.1 5 + 1)) (adZ Z b q (itI 0 w h d f c 0 0) none lo Ic bc v ou le fi it ne 0 0 t) M' else r = some (.int 0) ∧ PW ac adr s Z M') := by
  refine Ct_of (by decide) (Nat.le_of_ble_eq_true rfl) ?_
  refine V_aload_n d_PF_character_0 rfl (isr_ref _) ?_
  refine V_getf d_PF_character_1 f_PF_46 (PW_c hW (by omega) (fun _ => rfl)) rfl ?_
  rw [hin]
  refine V_ifnull 27 (isr_rf (some b)) d_PF_character_4 (by decide) (fun h4 => ?_) (fun a4 h4 => ?_)
  · cases h4
  · refine V_aload_n d_PF_character_7 rfl (isr_ref _) ?_
    refine V_getf d_PF_character_8 f_PF_46 (PW_c hW (by omega) (fun _ => rfl)) rfl ?_
    rw [hin]
    refine V_getf d_PF_character_11 f_PF_58 (PW_z hW ha) rfl ?_
    refine V_if_ne 27 d_PF_character_14 (by decide) (fun h14 => ?_) (fun h14 => ?_)
    · refine V_iconst (v := 0) d_PF_character_27 (by decide) ?_
      exact V_zreturn d_PF_character_28 rfl nz0 (by rw [if_neg (fun z => h14 z.1)]; exact ⟨rfl, hW⟩)
    · refine V_aload_n d_PF_character_17 rfl (isr_ref _) ?_
      refine V_getf d_PF_character_18 f_PF_62 (PW_c hW (by omega) (fun _ => rfl)) rfl ?_
      refine V_sipush (v := 3000) d_PF_character_21 (by decide) ?_
      refine V_icmp_lt 29 d_PF_character_24 (by decide) (fun h24 => ?_) (fun h24 => ?_)
      · refine V_iload_n d_PF_character_29 rfl ?_
        refine VS_ci1 d_PF_character_30 c_PF_36 (PF_isFont _) ⟨by decide, by decide⟩ (Nat.le_of_ble_eq_true rfl) ?_
        refine V_if_eq 61 d_PF_character_33 (by decide) (fun h33 => ?_) (fun h33 => ?_)
        · refine V_iconst (v := 0) d_PF_character_61 (by decide) ?_
          exact V_zreturn d_PF_character_62 rfl nz0 (by rw [if_neg (fun z => z.2.2.1 h33)]; exact ⟨rfl, hW⟩)
        · refine V_iload_n d_PF_character_36 rfl ?_
          refine V_if_lt 61 d_PF_character_37 (by decide) (fun h37 => ?_) (fun h37 => ?_)
          · refine V_iconst (v := 0) d_PF_character_61 (by decide) ?_
            exact V_zreturn d_PF_character_62 rfl nz0 (by rw [if_neg (fun z => z.2.2.2.1 h37)]; exact ⟨rfl, hW⟩)
          · refine V_iload_n d_PF_character_40 rfl ?_
            refine V_sipush (v := 256) d_PF_character_41 (by decide) ?_
            refine V_icmp_ge 61 d_PF_character_44 (by decide) (fun h44 => ?_) (fun h44 => ?_)
            · refine V_iconst (v := 0) d_PF_character_61 (by decide) ?_
              exact V_zreturn d_PF_character_62 rfl nz0 (by rw [if_neg (fun z => z.2.2.2.2.1 h44)]; exact ⟨rfl, hW⟩)
            · refine V_iload_n d_PF_character_47 rfl ?_
              refine V_i2l d_PF_character_48 ?_
              refine V_iload d_PF_character_49 rfl ?_
              refine V_i2l d_PF_character_51 ?_
              refine V_iload d_PF_character_52 rfl ?_
              refine V_i2l d_PF_character_54 ?_
              refine VS_ci3 d_PF_character_55 c_PF_65 (PF_areSizes _ _ _) ⟨by decide, by decide⟩ (Nat.le_of_ble_eq_true rfl) ?_
              refine V_if_ne 63 d_PF_character_58 (by decide) (fun h58 => ?_) (fun h58 => ?_)
              · have hc : chc s v f c w h d := ⟨Classical.not_not.mp h14, h24, h33, h37, h44, h58⟩
                refine V_new (k' := 0) (n' := 0) d_PF_character_63 n_PF_69 rfl rfl (fun q hq => ?_)
                refine V_dup d_PF_character_66 rfl ?_
                refine V_iconst (v := 0) d_PF_character_67 (by decide) ?_
                refine V_iload_n d_PF_character_68 rfl ?_
                refine V_iload d_PF_character_69 rfl ?_
                refine V_iload d_PF_character_71 rfl ?_
                refine V_callI (As := [.int 0, .int w, .int h, .int d]) (rest := [.ref q]) (b := q) (k' := 0) (n' := 0) d_PF_character_73 c_PF_71 ⟨by decide, by decide⟩ rfl rfl (Nat.le_of_ble_eq_true rfl) rfl rfl (Itm_init (mu_self _ _ _)) (fun x M1 hq9 => ?_)
                obtain ⟨rfl, rfl⟩ := hq9
                rw [mu_mu]
                refine V_astore (lv' := [(6, .ref q), (0, .ref (adr 0)), (1, .int f), (2, .int c), (3, .int w), (4, .int h), (5, .int d)]) d_PF_character_76 (isr_ref _) (by decide) rfl ?_
                refine V_aload d_PF_character_78 rfl (isr_ref _) ?_
                refine V_iload_n d_PF_character_80 rfl ?_
                refine V_putf d_PF_character_81 f_PF_74 (mu_self _ _ _) (rfl) (rfl) (Nat.le_of_ble_eq_true rfl) ?_
                rw [mu_mu]
                refine V_aload d_PF_character_84 rfl (isr_ref _) ?_
                refine V_iload_n d_PF_character_86 rfl ?_
                refine V_putf d_PF_character_87 f_PF_77 (mu_self _ _ _) (rfl) (rfl) (Nat.le_of_ble_eq_true rfl) ?_
                rw [mu_mu]
                refine V_aload_n d_PF_character_90 rfl (isr_ref _) ?_
                have hWx := (PW_new hW hq (.inr (5, itv (itI 0 w h d f c 0 0) .null .null))).1
                refine V_getf d_PF_character_91 f_PF_46 (PW_c (p := 0) hWx (by omega) (fun _ => rfl)) rfl ?_
                rw [hin]
                refine V_aload d_PF_character_94 rfl (isr_ref _) ?_
                obtain ⟨hWn, hZq⟩ := PW_new hW hq (.inr (5, itv (itI 0 w h d f c 0 0) (va_rf none) .null))
                refine V_c0 (As := [.ref q]) (rest := []) (T := T_OpL) (N := 10) (PW_z hWn (opl_mu hZq ha)) rfl d_PF_character_96 c_PF_80 ⟨by decide, by decide⟩ rfl rfl (Nat.le_of_ble_eq_true rfl) (OpL_joinW (bo := none) (bi := 0) (bn := 0) (Ic := Ic) (bc := bc) hWn (opl_mu hZq ha) (mu_self _ _ _) (fun c hc9 => by obtain ⟨nc, h1⟩ := hlo c hc9; exact ⟨nc, opl_mu hZq h1, opl_ne hZq h1⟩) (fun _ z => by cases z)) (fun r M1 hq9 => ?_)
                obtain ⟨rfl, hW⟩ := hq9
                refine V_aload_n d_PF_character_99 rfl (isr_ref _) ?_
                refine V_dup d_PF_character_100 rfl ?_
                refine V_getf d_PF_character_101 f_PF_62 (PW_c hW (by omega) (fun _ => rfl)) rfl ?_
                refine V_iconst (v := 1) d_PF_character_104 (by decide) ?_
                refine V_iadd d_PF_character_105 ?_
                refine VW_put hW (by omega) d_PF_character_106 f_PF_62 (fun _ => rfl) (rfl) (rfl) (Nat.le_of_ble_eq_true rfl) (fun _ => pC_i5 _) rfl rfl (fun M1 hW => ?_)
                refine V_iconst (v := 1) d_PF_character_109 (by decide) ?_
                exact V_zreturn d_PF_character_110 rfl nz1 (by rw [if_pos hc]; exact ⟨q, hZq, rfl, hW⟩)
              · refine V_iconst (v := 0) d_PF_character_61 (by decide) ?_
                exact V_zreturn d_PF_character_62 rfl nz0 (by rw [if_neg (fun z => z.2.2.2.2.2 (Classical.not_not.mp h58))]; exact ⟨rfl, hW⟩)
      · refine V_iconst (v := 0) d_PF_character_27 (by decide) ?_
        exact V_zreturn d_PF_character_28 rfl nz0 (by rw [if_neg (fun z => h24 z.2.1)]; exact ⟨rfl, hW⟩)
abbrev spc (s : PS) (x : Int32) : Prop := s.1 5 < 3000 ∧ ¬ iszl x.toInt64 = 0
set_option maxRecDepth 100000 in
set_option maxHeartbeats 4000000 in
theorem PF_space0 {l : Launch} {D : va_G} {ac : Nat → ClassId} {adr : Nat → Nat} {s : PS} {Z M : MP} (hW : PW ac adr s Z M) (hin : s.2.1 8 = none) (x : Int32) : Ct l D (tyl ac) t_PF_space 1 10 [.ref (adr 0), .int x] M (fun r M' => r = some (.int 0) ∧ PW ac adr s Z M') := by
  refine Ct_of (by decide) (Nat.le_of_ble_eq_true rfl) ?_
  refine V_aload_n d_PF_space_0 rfl (isr_ref _) ?_
  refine V_getf d_PF_space_1 f_PF_46 (PW_c hW (by omega) (fun _ => rfl)) rfl ?_
  rw [hin]
  refine V_ifnull 25 (isr_rf none) d_PF_space_4 (by decide) (fun h4 => ?_) (fun a4 h4 => ?_)
  · refine V_iconst (v := 0) d_PF_space_25 (by decide) ?_
    exact V_zreturn d_PF_space_26 rfl nz0 ⟨rfl, hW⟩
  · cases h4
set_option maxRecDepth 100000 in
set_option maxHeartbeats 4000000 in
theorem PF_space1 {l : Launch} {D : va_G} {ac : Nat → ClassId} {adr : Nat → Nat} {s : PS} {Z M : MP} (hW : PW ac adr s Z M) {b : Nat} (hin : s.2.1 8 = some b) {v le it ne : Int32} {lo : Option Nat} {ou fi bc : Value} {t : T3} {Ic : Nat → Int32} (ha : Z b = some (.inr (6, olv v ou le fi (va_rf lo) it ne t))) (hlo : ∀ c, lo = some c → ∃ nc, Z c = some (.inr (5, itv Ic bc nc))) (x : Int32) : Ct l D (tyl ac) t_PF_space 1 10 [.ref (adr 0), .int x] M (fun r M' => if spc s x then ∃ q, Z q = none ∧ r = some (.int 1) ∧ PW ac adr (uI s 5 (s.1 5 + 1)) (adZ Z b q (itI 2 x 0 0 0 0 0 0) none lo Ic bc v ou le fi it ne 0 0 t) M' else r = some (.int 0) ∧ PW ac adr s Z M') := by
  refine Ct_of (by decide) (Nat.le_of_ble_eq_true rfl) ?_
  refine V_aload_n d_PF_space_0 rfl (isr_ref _) ?_
  refine V_getf d_PF_space_1 f_PF_46 (PW_c hW (by omega) (fun _ => rfl)) rfl ?_
  rw [hin]
  refine V_ifnull 25 (isr_rf (some b)) d_PF_space_4 (by decide) (fun h4 => ?_) (fun a4 h4 => ?_)
  · cases h4
  · refine V_aload_n d_PF_space_7 rfl (isr_ref _) ?_
    refine V_getf d_PF_space_8 f_PF_62 (PW_c hW (by omega) (fun _ => rfl)) rfl ?_
    refine V_sipush (v := 3000) d_PF_space_11 (by decide) ?_
    refine V_icmp_ge 25 d_PF_space_14 (by decide) (fun h14 => ?_) (fun h14 => ?_)
    · refine V_iconst (v := 0) d_PF_space_25 (by decide) ?_
      exact V_zreturn d_PF_space_26 rfl nz0 (by rw [if_neg (fun z => Int32.not_lt.mpr h14 z.1)]; exact ⟨rfl, hW⟩)
    · refine V_iload_n d_PF_space_17 rfl ?_
      refine V_i2l d_PF_space_18 ?_
      refine VS_ci1 d_PF_space_19 c_PF_87 (PF_isSize _) ⟨by decide, by decide⟩ (Nat.le_of_ble_eq_true rfl) ?_
      refine V_if_ne 27 d_PF_space_22 (by decide) (fun h22 => ?_) (fun h22 => ?_)
      · have hc : spc s x := ⟨Int32.not_le.mp h14, h22⟩
        refine V_aload_n d_PF_space_27 rfl (isr_ref _) ?_
        refine V_getf d_PF_space_28 f_PF_46 (PW_c hW (by omega) (fun _ => rfl)) rfl ?_
        rw [hin]
        refine V_new (k' := 0) (n' := 0) d_PF_space_31 n_PF_69 rfl rfl (fun q hq => ?_)
        refine V_dup d_PF_space_34 rfl ?_
        refine V_iconst (v := 2) d_PF_space_35 (by decide) ?_
        refine V_iload_n d_PF_space_36 rfl ?_
        refine V_iconst (v := 0) d_PF_space_37 (by decide) ?_
        refine V_iconst (v := 0) d_PF_space_38 (by decide) ?_
        refine V_callI (As := [.int 2, .int x, .int 0, .int 0]) (rest := [.ref q, va_rf (some b)]) (b := q) (k' := 0) (n' := 0) d_PF_space_39 c_PF_71 ⟨by decide, by decide⟩ rfl rfl (Nat.le_of_ble_eq_true rfl) rfl rfl (Itm_init (mu_self _ _ _)) (fun x9 M1 hq9 => ?_)
        obtain ⟨rfl, rfl⟩ := hq9
        rw [mu_mu]
        obtain ⟨hWn, hZq⟩ := PW_new hW hq (.inr (5, itv (itI 2 x 0 0 0 0 0 0) (va_rf none) .null))
        refine V_c0 (As := [.ref q]) (rest := []) (T := T_OpL) (N := 10) (PW_z hWn (opl_mu hZq ha)) rfl d_PF_space_42 c_PF_80 ⟨by decide, by decide⟩ rfl rfl (Nat.le_of_ble_eq_true rfl) (OpL_joinW (bo := none) (bi := 0) (bn := 0) (Ic := Ic) (bc := bc) hWn (opl_mu hZq ha) (mu_self _ _ _) (fun c hc9 => by obtain ⟨nc, h1⟩ := hlo c hc9; exact ⟨nc, opl_mu hZq h1, opl_ne hZq h1⟩) (fun _ z => by cases z)) (fun r M1 hq9 => ?_)
        obtain ⟨rfl, hW⟩ := hq9
        refine V_aload_n d_PF_space_45 rfl (isr_ref _) ?_
        refine V_dup d_PF_space_46 rfl ?_
        refine V_getf d_PF_space_47 f_PF_62 (PW_c hW (by omega) (fun _ => rfl)) rfl ?_
        refine V_iconst (v := 1) d_PF_space_50 (by decide) ?_
        refine V_iadd d_PF_space_51 ?_
        refine VW_put hW (by omega) d_PF_space_52 f_PF_62 (fun _ => rfl) (rfl) (rfl) (Nat.le_of_ble_eq_true rfl) (fun _ => pC_i5 _) rfl rfl (fun M1 hW => ?_)
        refine V_iconst (v := 1) d_PF_space_55 (by decide) ?_
        exact V_zreturn d_PF_space_56 rfl nz1 (by rw [if_pos hc]; exact ⟨q, hZq, rfl, hW⟩)
      · refine V_iconst (v := 0) d_PF_space_25 (by decide) ?_
        exact V_zreturn d_PF_space_26 rfl nz0 (by rw [if_neg (fun z => z.2 (Classical.not_not.mp h22))]; exact ⟨rfl, hW⟩)
def slf (x bit w : Int32) : Int32 := if x &&& bit = 0 then w else 0
abbrev ral (v : Int32) : Int32 := if v = 0 then 6 else 1
abbrev rlc (s : PS) (v w h d x : Int32) : Prop := s.1 5 < 3000 ∧ ¬ asz w.toInt64 h.toInt64 d.toInt64 = 0 ∧ x &&& (ral v ^^^ (-1)) = 0
set_option maxRecDepth 100000 in
set_option maxHeartbeats 4000000 in
theorem PFr_102 {l : Launch} {D : va_G} {ac : Nat → ClassId} {adr : Nat → Nat} {s : PS} {Z M : MP} (hW : PW ac adr s Z M) {b : Nat} (hin : s.2.1 8 = some b) {v le it ne : Int32} {lo : Option Nat} {ou fi bc : Value} {t : T3} {Ic : Nat → Int32} (ha : Z b = some (.inr (6, olv v ou le fi (va_rf lo) it ne t))) (hlo : ∀ c, lo = some c → ∃ nc, Z c = some (.inr (5, itv Ic bc nc))) (w h d x al : Int32) (hc : rlc s v w h d x) {q : Nat} (hq : M q = none) : V l D (tyl ac) t_PF_rule 0 0 102 [(0, .ref (adr 0)), (1, .int w), (2, .int h), (3, .int d), (4, .int x), (5, .int al)] [.int (slf x 4 d), .int (slf x 2 h), .int (slf x 1 w), .int 1, .ref q, .ref q] (mu M q (.inr (5, itv (itI 0 0 0 0 0 0 0 0) .null .null))) (fun r M' => if rlc s v w h d x then ∃ q, Z q = none ∧ r = some (.int 1) ∧ PW ac adr (uI s 5 (s.1 5 + 1)) (adZ Z b q (itI 1 (slf x 1 w) (slf x 2 h) (slf x 4 d) 0 0 x 0) none lo Ic bc v ou le fi it ne 0 0 t) M' else r = some (.int 0) ∧ PW ac adr s Z M') := by
  refine V_callI (As := [.int 1, .int (slf x 1 w), .int (slf x 2 h), .int (slf x 4 d)]) (rest := [.ref q]) (b := q) (k' := 0) (n' := 0) d_PF_rule_102 c_PF_71 ⟨by decide, by decide⟩ rfl rfl (Nat.le_of_ble_eq_true rfl) rfl rfl (Itm_init (mu_self _ _ _)) (fun x M1 hq9 => ?_)
  obtain ⟨rfl, rfl⟩ := hq9
  rw [mu_mu]
  refine V_astore (lv' := [(6, .ref q), (0, .ref (adr 0)), (1, .int w), (2, .int h), (3, .int d), (4, .int x), (5, .int al)]) d_PF_rule_105 (isr_ref _) (by decide) rfl ?_
  refine V_aload d_PF_rule_107 rfl (isr_ref _) ?_
  refine V_iload d_PF_rule_109 rfl ?_
  refine V_putf d_PF_rule_111 f_PF_84 (mu_self _ _ _) (rfl) (rfl) (Nat.le_of_ble_eq_true rfl) ?_
  rw [mu_mu]
  refine V_aload_n d_PF_rule_114 rfl (isr_ref _) ?_
  have hWx := (PW_new hW hq (.inr (5, itv (itI 1 (slf x 1 w) (slf x 2 h) (slf x 4 d) 0 0 x 0) .null .null))).1
  refine V_getf d_PF_rule_115 f_PF_46 (PW_c (p := 0) hWx (by omega) (fun _ => rfl)) rfl ?_
  rw [hin]
  refine V_aload d_PF_rule_118 rfl (isr_ref _) ?_
  obtain ⟨hWn, hZq⟩ := PW_new hW hq (.inr (5, itv (itI 1 (slf x 1 w) (slf x 2 h) (slf x 4 d) 0 0 x 0) (va_rf none) .null))
  refine V_c0 (As := [.ref q]) (rest := []) (T := T_OpL) (N := 10) (PW_z hWn (opl_mu hZq ha)) rfl d_PF_rule_120 c_PF_80 ⟨by decide, by decide⟩ rfl rfl (Nat.le_of_ble_eq_true rfl) (OpL_joinW (bo := none) (bi := 0) (bn := 0) (Ic := Ic) (bc := bc) hWn (opl_mu hZq ha) (mu_self _ _ _) (fun c hc9 => by obtain ⟨nc, h1⟩ := hlo c hc9; exact ⟨nc, opl_mu hZq h1, opl_ne hZq h1⟩) (fun _ z => by cases z)) (fun r M1 hq9 => ?_)
  obtain ⟨rfl, hW⟩ := hq9
  refine V_aload_n d_PF_rule_123 rfl (isr_ref _) ?_
  refine V_dup d_PF_rule_124 rfl ?_
  refine V_getf d_PF_rule_125 f_PF_62 (PW_c hW (by omega) (fun _ => rfl)) rfl ?_
  refine V_iconst (v := 1) d_PF_rule_128 (by decide) ?_
  refine V_iadd d_PF_rule_129 ?_
  refine VW_put hW (by omega) d_PF_rule_130 f_PF_62 (fun _ => rfl) (rfl) (rfl) (Nat.le_of_ble_eq_true rfl) (fun _ => pC_i5 _) rfl rfl (fun M1 hW => ?_)
  refine V_iconst (v := 1) d_PF_rule_133 (by decide) ?_
  exact V_zreturn d_PF_rule_134 rfl nz1 (by rw [if_pos hc]; exact ⟨q, hZq, rfl, hW⟩)
set_option maxRecDepth 100000 in
set_option maxHeartbeats 4000000 in
theorem PFr_90 {l : Launch} {D : va_G} {ac : Nat → ClassId} {adr : Nat → Nat} {s : PS} {Z M : MP} (hW : PW ac adr s Z M) {b : Nat} (hin : s.2.1 8 = some b) {v le it ne : Int32} {lo : Option Nat} {ou fi bc : Value} {t : T3} {Ic : Nat → Int32} (ha : Z b = some (.inr (6, olv v ou le fi (va_rf lo) it ne t))) (hlo : ∀ c, lo = some c → ∃ nc, Z c = some (.inr (5, itv Ic bc nc))) (w h d x al : Int32) (hc : rlc s v w h d x) {q : Nat} (hq : M q = none) : V l D (tyl ac) t_PF_rule 0 0 90 [(0, .ref (adr 0)), (1, .int w), (2, .int h), (3, .int d), (4, .int x), (5, .int al)] [.int (slf x 2 h), .int (slf x 1 w), .int 1, .ref q, .ref q] (mu M q (.inr (5, itv (itI 0 0 0 0 0 0 0 0) .null .null))) (fun r M' => if rlc s v w h d x then ∃ q, Z q = none ∧ r = some (.int 1) ∧ PW ac adr (uI s 5 (s.1 5 + 1)) (adZ Z b q (itI 1 (slf x 1 w) (slf x 2 h) (slf x 4 d) 0 0 x 0) none lo Ic bc v ou le fi it ne 0 0 t) M' else r = some (.int 0) ∧ PW ac adr s Z M') := by
  refine V_iload d_PF_rule_90 rfl ?_
  refine V_iconst (v := 4) d_PF_rule_92 (by decide) ?_
  refine V_iand d_PF_rule_93 ?_
  refine V_if_eq 101 d_PF_rule_94 (by decide) (fun h94 => ?_) (fun h94 => ?_)
  · refine V_iload_n d_PF_rule_101 rfl ?_
    refine V_eqi (show d = slf x 4 d from (if_pos h94).symm) ?_
    exact PFr_102 hW hin ha hlo w h d x al hc hq
  · refine V_iconst (v := 0) d_PF_rule_97 (by decide) ?_
    refine V_goto 102 d_PF_rule_98 (by decide) ?_
    refine V_eqi (show 0 = slf x 4 d from (if_neg h94).symm) ?_
    exact PFr_102 hW hin ha hlo w h d x al hc hq
set_option maxRecDepth 100000 in
set_option maxHeartbeats 4000000 in
theorem PFr_78 {l : Launch} {D : va_G} {ac : Nat → ClassId} {adr : Nat → Nat} {s : PS} {Z M : MP} (hW : PW ac adr s Z M) {b : Nat} (hin : s.2.1 8 = some b) {v le it ne : Int32} {lo : Option Nat} {ou fi bc : Value} {t : T3} {Ic : Nat → Int32} (ha : Z b = some (.inr (6, olv v ou le fi (va_rf lo) it ne t))) (hlo : ∀ c, lo = some c → ∃ nc, Z c = some (.inr (5, itv Ic bc nc))) (w h d x al : Int32) (hc : rlc s v w h d x) {q : Nat} (hq : M q = none) : V l D (tyl ac) t_PF_rule 0 0 78 [(0, .ref (adr 0)), (1, .int w), (2, .int h), (3, .int d), (4, .int x), (5, .int al)] [.int (slf x 1 w), .int 1, .ref q, .ref q] (mu M q (.inr (5, itv (itI 0 0 0 0 0 0 0 0) .null .null))) (fun r M' => if rlc s v w h d x then ∃ q, Z q = none ∧ r = some (.int 1) ∧ PW ac adr (uI s 5 (s.1 5 + 1)) (adZ Z b q (itI 1 (slf x 1 w) (slf x 2 h) (slf x 4 d) 0 0 x 0) none lo Ic bc v ou le fi it ne 0 0 t) M' else r = some (.int 0) ∧ PW ac adr s Z M') := by
  refine V_iload d_PF_rule_78 rfl ?_
  refine V_iconst (v := 2) d_PF_rule_80 (by decide) ?_
  refine V_iand d_PF_rule_81 ?_
  refine V_if_eq 89 d_PF_rule_82 (by decide) (fun h82 => ?_) (fun h82 => ?_)
  · refine V_iload_n d_PF_rule_89 rfl ?_
    refine V_eqi (show h = slf x 2 h from (if_pos h82).symm) ?_
    exact PFr_90 hW hin ha hlo w h d x al hc hq
  · refine V_iconst (v := 0) d_PF_rule_85 (by decide) ?_
    refine V_goto 90 d_PF_rule_86 (by decide) ?_
    refine V_eqi (show 0 = slf x 2 h from (if_neg h82).symm) ?_
    exact PFr_90 hW hin ha hlo w h d x al hc hq
set_option maxRecDepth 100000 in
set_option maxHeartbeats 4000000 in
theorem PFr_66 {l : Launch} {D : va_G} {ac : Nat → ClassId} {adr : Nat → Nat} {s : PS} {Z M : MP} (hW : PW ac adr s Z M) {b : Nat} (hin : s.2.1 8 = some b) {v le it ne : Int32} {lo : Option Nat} {ou fi bc : Value} {t : T3} {Ic : Nat → Int32} (ha : Z b = some (.inr (6, olv v ou le fi (va_rf lo) it ne t))) (hlo : ∀ c, lo = some c → ∃ nc, Z c = some (.inr (5, itv Ic bc nc))) (w h d x al : Int32) (hc : rlc s v w h d x) {q : Nat} (hq : M q = none) : V l D (tyl ac) t_PF_rule 0 0 66 [(0, .ref (adr 0)), (1, .int w), (2, .int h), (3, .int d), (4, .int x), (5, .int al)] [.int 1, .ref q, .ref q] (mu M q (.inr (5, itv (itI 0 0 0 0 0 0 0 0) .null .null))) (fun r M' => if rlc s v w h d x then ∃ q, Z q = none ∧ r = some (.int 1) ∧ PW ac adr (uI s 5 (s.1 5 + 1)) (adZ Z b q (itI 1 (slf x 1 w) (slf x 2 h) (slf x 4 d) 0 0 x 0) none lo Ic bc v ou le fi it ne 0 0 t) M' else r = some (.int 0) ∧ PW ac adr s Z M') := by
  refine V_iload d_PF_rule_66 rfl ?_
  refine V_iconst (v := 1) d_PF_rule_68 (by decide) ?_
  refine V_iand d_PF_rule_69 ?_
  refine V_if_eq 77 d_PF_rule_70 (by decide) (fun h70 => ?_) (fun h70 => ?_)
  · refine V_iload_n d_PF_rule_77 rfl ?_
    refine V_eqi (show w = slf x 1 w from (if_pos h70).symm) ?_
    exact PFr_78 hW hin ha hlo w h d x al hc hq
  · refine V_iconst (v := 0) d_PF_rule_73 (by decide) ?_
    refine V_goto 78 d_PF_rule_74 (by decide) ?_
    refine V_eqi (show 0 = slf x 1 w from (if_neg h70).symm) ?_
    exact PFr_78 hW hin ha hlo w h d x al hc hq
set_option maxRecDepth 100000 in
set_option maxHeartbeats 4000000 in
theorem PFr_49 {l : Launch} {D : va_G} {ac : Nat → ClassId} {adr : Nat → Nat} {s : PS} {Z M : MP} (hW : PW ac adr s Z M) {b : Nat} (hin : s.2.1 8 = some b) {v le it ne : Int32} {lo : Option Nat} {ou fi bc : Value} {t : T3} {Ic : Nat → Int32} (ha : Z b = some (.inr (6, olv v ou le fi (va_rf lo) it ne t))) (hlo : ∀ c, lo = some c → ∃ nc, Z c = some (.inr (5, itv Ic bc nc))) (w h d x al : Int32) (hal : al = ral v) (hs1 : s.1 5 < 3000) (hs2 : ¬ asz w.toInt64 h.toInt64 d.toInt64 = 0) : V l D (tyl ac) t_PF_rule 1 10 49 [(0, .ref (adr 0)), (1, .int w), (2, .int h), (3, .int d), (4, .int x), (5, .int al)] [] M (fun r M' => if rlc s v w h d x then ∃ q, Z q = none ∧ r = some (.int 1) ∧ PW ac adr (uI s 5 (s.1 5 + 1)) (adZ Z b q (itI 1 (slf x 1 w) (slf x 2 h) (slf x 4 d) 0 0 x 0) none lo Ic bc v ou le fi it ne 0 0 t) M' else r = some (.int 0) ∧ PW ac adr s Z M') := by
  refine V_iload d_PF_rule_49 rfl ?_
  refine V_iload d_PF_rule_51 rfl ?_
  refine V_iconst (v := (-1)) d_PF_rule_53 (by decide) ?_
  refine V_ixor d_PF_rule_54 ?_
  refine V_iand d_PF_rule_55 ?_
  refine V_if_eq 61 d_PF_rule_56 (by decide) (fun h56 => ?_) (fun h56 => ?_)
  · have hc : rlc s v w h d x := ⟨hs1, hs2, by rw [← hal]; exact h56⟩
    refine V_new (k' := 0) (n' := 0) d_PF_rule_61 n_PF_69 rfl rfl (fun q hq => ?_)
    refine V_dup d_PF_rule_64 rfl ?_
    refine V_iconst (v := 1) d_PF_rule_65 (by decide) ?_
    exact PFr_66 hW hin ha hlo w h d x al hc hq
  · refine V_iconst (v := 0) d_PF_rule_59 (by decide) ?_
    exact V_zreturn d_PF_rule_60 rfl nz0 (by rw [if_neg (fun z => h56 (by rw [hal]; exact z.2.2))]; exact ⟨rfl, hW⟩)
set_option maxRecDepth 100000 in
set_option maxHeartbeats 4000000 in
theorem PF_rule0 {l : Launch} {D : va_G} {ac : Nat → ClassId} {adr : Nat → Nat} {s : PS} {Z M : MP} (hW : PW ac adr s Z M) (hin : s.2.1 8 = none) (w h d x : Int32) : Ct l D (tyl ac) t_PF_rule 1 10 [.ref (adr 0), .int w, .int h, .int d, .int x] M (fun r M' => r = some (.int 0) ∧ PW ac adr s Z M') := by
  refine Ct_of (by decide) (Nat.le_of_ble_eq_true rfl) ?_
  refine V_aload_n d_PF_rule_0 rfl (isr_ref _) ?_
  refine V_getf d_PF_rule_1 f_PF_46 (PW_c hW (by omega) (fun _ => rfl)) rfl ?_
  rw [hin]
  refine V_ifnull 29 (isr_rf none) d_PF_rule_4 (by decide) (fun h4 => ?_) (fun a4 h4 => ?_)
  · refine V_iconst (v := 0) d_PF_rule_29 (by decide) ?_
    exact V_zreturn d_PF_rule_30 rfl nz0 ⟨rfl, hW⟩
  · cases h4
set_option maxRecDepth 100000 in
set_option maxHeartbeats 4000000 in
theorem PF_rule1 {l : Launch} {D : va_G} {ac : Nat → ClassId} {adr : Nat → Nat} {s : PS} {Z M : MP} (hW : PW ac adr s Z M) {b : Nat} (hin : s.2.1 8 = some b) {v le it ne : Int32} {lo : Option Nat} {ou fi bc : Value} {t : T3} {Ic : Nat → Int32} (ha : Z b = some (.inr (6, olv v ou le fi (va_rf lo) it ne t))) (hlo : ∀ c, lo = some c → ∃ nc, Z c = some (.inr (5, itv Ic bc nc))) (w h d x : Int32) : Ct l D (tyl ac) t_PF_rule 1 10 [.ref (adr 0), .int w, .int h, .int d, .int x] M (fun r M' => if rlc s v w h d x then ∃ q, Z q = none ∧ r = some (.int 1) ∧ PW ac adr (uI s 5 (s.1 5 + 1)) (adZ Z b q (itI 1 (slf x 1 w) (slf x 2 h) (slf x 4 d) 0 0 x 0) none lo Ic bc v ou le fi it ne 0 0 t) M' else r = some (.int 0) ∧ PW ac adr s Z M') := by
  refine Ct_of (by decide) (Nat.le_of_ble_eq_true rfl) ?_
  refine V_aload_n d_PF_rule_0 rfl (isr_ref _) ?_
  refine V_getf d_PF_rule_1 f_PF_46 (PW_c hW (by omega) (fun _ => rfl)) rfl ?_
  rw [hin]
  refine V_ifnull 29 (isr_rf (some b)) d_PF_rule_4 (by decide) (fun h4 => ?_) (fun a4 h4 => ?_)
  · cases h4
  · refine V_aload_n d_PF_rule_7 rfl (isr_ref _) ?_
    refine V_getf d_PF_rule_8 f_PF_62 (PW_c hW (by omega) (fun _ => rfl)) rfl ?_
    refine V_sipush (v := 3000) d_PF_rule_11 (by decide) ?_
    refine V_icmp_ge 29 d_PF_rule_14 (by decide) (fun h14 => ?_) (fun h14 => ?_)
    · refine V_iconst (v := 0) d_PF_rule_29 (by decide) ?_
      exact V_zreturn d_PF_rule_30 rfl nz0 (by rw [if_neg (fun z => Int32.not_lt.mpr h14 z.1)]; exact ⟨rfl, hW⟩)
    · refine V_iload_n d_PF_rule_17 rfl ?_
      refine V_i2l d_PF_rule_18 ?_
      refine V_iload_n d_PF_rule_19 rfl ?_
      refine V_i2l d_PF_rule_20 ?_
      refine V_iload_n d_PF_rule_21 rfl ?_
      refine V_i2l d_PF_rule_22 ?_
      refine VS_ci3 d_PF_rule_23 c_PF_65 (PF_areSizes _ _ _) ⟨by decide, by decide⟩ (Nat.le_of_ble_eq_true rfl) ?_
      refine V_if_ne 31 d_PF_rule_26 (by decide) (fun h26 => ?_) (fun h26 => ?_)
      · refine V_aload_n d_PF_rule_31 rfl (isr_ref _) ?_
        refine V_getf d_PF_rule_32 f_PF_46 (PW_c hW (by omega) (fun _ => rfl)) rfl ?_
        rw [hin]
        refine V_getf d_PF_rule_35 f_PF_58 (PW_z hW ha) rfl ?_
        refine V_if_eq 45 d_PF_rule_38 (by decide) (fun h38 => ?_) (fun h38 => ?_)
        · refine V_bipush (v := 6) d_PF_rule_45 (by decide) ?_
          refine V_istore (lv' := [(5, .int 6), (0, .ref (adr 0)), (1, .int w), (2, .int h), (3, .int d), (4, .int x)]) d_PF_rule_47 (by decide) rfl ?_
          refine V_lv [1, 2, 3, 4, 5, 0] rfl ?_
          exact PFr_49 hW hin ha hlo w h d x 6 ((if_pos h38).symm) (Int32.not_le.mp h14) h26
        · refine V_iconst (v := 1) d_PF_rule_41 (by decide) ?_
          refine V_goto 47 d_PF_rule_42 (by decide) ?_
          refine V_istore (lv' := [(5, .int 1), (0, .ref (adr 0)), (1, .int w), (2, .int h), (3, .int d), (4, .int x)]) d_PF_rule_47 (by decide) rfl ?_
          refine V_lv [1, 2, 3, 4, 5, 0] rfl ?_
          exact PFr_49 hW hin ha hlo w h d x 1 ((if_neg h38).symm) (Int32.not_le.mp h14) h26
      · refine V_iconst (v := 0) d_PF_rule_29 (by decide) ?_
        exact V_zreturn d_PF_rule_30 rfl nz0 (by rw [if_neg (fun z => z.2.1 (Classical.not_not.mp h26))]; exact ⟨rfl, hW⟩)
