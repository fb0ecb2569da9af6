/-! close, put -/
theorem va_uu {α : Type} (f : Nat → α) (k : Nat) (x y : α) : va_up (va_up f k x) k y = va_up f k y := by
  funext j
  by_cases h : j = k
  · subst h; rw [va_up_self, va_up_self]
  · rw [va_up_ne _ _ h, va_up_ne _ _ h, va_up_ne _ _ h]
abbrev clc (s : PS) (x ne : Int32) (t : T3) : Prop := ¬ irg x = 0 ∧ s.1 5 < 3000 ∧ tbok ne t
def clS (s : PS) (k : Nat) (oo : Option Nat) (ri : Int32) (q : Nat) : PS := uR (uI (uR s 8 oo) 5 (s.1 5 + 1 - ri)) k (some q)
def clX (s : PS) (oo : Option Nat) : PS := uI (uR s 8 oo) 5 (s.1 5 + 1)
theorem clX_8 (s : PS) (oo : Option Nat) {k : Nat} (hk : k < 8) : (clX s oo).2.1 k = s.2.1 k := va_up_ne _ _ (by omega)
theorem clS_0 (s : PS) (k : Nat) (oo : Option Nat) (q : Nat) : uR (clX s oo) k (some q) = clS s k oo 0 q := by
  unfold clX clS
  rw [Int32.sub_zero]
theorem clS_1 (s : PS) (k : Nat) (oo : Option Nat) (ri : Int32) (q : Nat) : uR (drS (clX s oo) k ri) k (some q) = clS s k oo ri q := by
  show ((va_up (va_up s.1 5 (s.1 5 + 1)) 5 (va_up s.1 5 (s.1 5 + 1) 5 - ri), va_up (va_up (va_up s.2.1 8 oo) k none) k (some q), s.2.2) : PS) = (va_up s.1 5 (s.1 5 + 1 - ri), va_up (va_up s.2.1 8 oo) k (some q), s.2.2)
  rw [va_uu, va_uu, va_up_self]
set_option maxRecDepth 100000 in
set_option maxHeartbeats 4000000 in
theorem PFc_66 {l : Launch} {D : va_G} {ac : Nat → ClassId} {adr : Nat → Nat} {s : PS} {Z M : MP} (hW : PW ac adr s Z M) {k q : Nat} (hk : k < 8) {fs : List Value} (hB : Z q = some (.inr (1, fs))) {Q : Option Value → MP → Prop} (hQ : ∀ M', PW ac adr (uR s k (some q)) Z M' → Q (some (.int 1)) M') : V l D (tyl ac) t_PF_close 0 0 66 [(0, .ref (adr 0)), (1, .int (nI k)), (2, .ref q)] [] M Q := by
  refine V_aload_n d_PF_close_66 rfl (isr_ref _) ?_
  refine V_getf d_PF_close_67 f_PF_11 (PW_c hW (by omega) (fun _ => rfl)) rfl ?_
  refine V_iload_n d_PF_close_70 rfl ?_
  refine V_aload_n d_PF_close_71 rfl (isr_ref _) ?_
  refine V_aast d_PF_close_72 (PW_c (p := 6) hW (by omega) (fun _ => rfl)) (PW_z hW hB) (vp_in_nI hk (by decide)) ?_
  rw [nI_clamp (by omega)]
  refine V_iconst (v := 1) d_PF_close_73 (by decide) ?_
  exact V_zreturn d_PF_close_74 rfl nz1 (hQ _ (PW_set (p := 6) hW (by omega) (fun _ => pC_r hk (some q)) rfl rfl))
set_option maxRecDepth 100000 in
set_option maxHeartbeats 4000000 in
theorem PF_close0 {l : Launch} {D : va_G} {ac : Nat → ClassId} {adr : Nat → Nat} {s : PS} {Z M : MP} (hW : PW ac adr s Z M) (hin : s.2.1 8 = none) (x : Int32) : Ct l D (tyl ac) t_PF_close 1 7 [.ref (adr 0), .int x] M (fun r M' => r = some (.int 0) ∧ PW ac adr s Z M') := by
  refine Ct_of (by decide) (Nat.le_of_ble_eq_true rfl) ?_
  refine V_aload_n d_PF_close_0 rfl (isr_ref _) ?_
  refine V_getf d_PF_close_1 f_PF_46 (PW_c hW (by omega) (fun _ => rfl)) rfl ?_
  rw [hin]
  refine V_ifnull 24 (isr_rf none) d_PF_close_4 (by decide) (fun h4 => ?_) (fun a4 h4 => ?_)
  · refine V_iconst (v := 0) d_PF_close_24 (by decide) ?_
    exact V_zreturn d_PF_close_25 rfl nz0 ⟨rfl, hW⟩
  · cases h4
set_option maxRecDepth 100000 in
set_option maxHeartbeats 4000000 in
theorem PF_close1 {l : Launch} {D : va_G} {ac : Nat → ClassId} {adr : Nat → Nat} {s : PS} {Z M : MP} (hW : PW ac adr s Z M) {b : Nat} (hin : s.2.1 8 = some b) {v le it ne : Int32} {oo : Option Nat} {fi la : Value} {t : T3} (hz : isz1 v) (hfi : isr fi) (ha : Z b = some (.inr (6, olv v (va_rf oo) le fi la it ne t))) (x : Int32) {ri : Int32} (hr0 : ∀ k, x = nI k → k < 8 → s.2.1 k = none → ri = 0) (hr1 : ∀ k q, x = nI k → k < 8 → s.2.1 k = some q → ∃ rv rw rh rd rn rf, Z q = some (.inr (1, bxv rv rw rh rd rf ri rn))) : Ct l D (tyl ac) t_PF_close 1 7 [.ref (adr 0), .int x] M (fun r M' => if clc s x ne t then ∃ q, Z q = none ∧ r = some (.int 1) ∧ PW ac adr (clS s x.toNatClampNeg oo ri q) (mu Z q (.inr (1, bxv v t.1.toInt32 t.2.1.toInt32 t.2.2.toInt32 fi (it + 1) (ne + 1)))) M' else r = some (.int 0) ∧ PW ac adr s Z M') := by
  refine Ct_of (by decide) (Nat.le_of_ble_eq_true rfl) ?_
  refine V_aload_n d_PF_close_0 rfl (isr_ref _) ?_
  refine V_getf d_PF_close_1 f_PF_46 (PW_c hW (by omega) (fun _ => rfl)) rfl ?_
  rw [hin]
  refine V_ifnull 24 (isr_rf (some b)) d_PF_close_4 (by decide) (fun h4 => ?_) (fun a4 h4 => ?_)
  · cases h4
  · refine V_iload_n d_PF_close_7 rfl ?_
    refine VS_ci1 d_PF_close_8 c_PF_91 (PF_isRegister _) ⟨by decide, by decide⟩ (Nat.le_of_ble_eq_true rfl) ?_
    refine V_if_eq 24 d_PF_close_11 (by decide) (fun h11 => ?_) (fun h11 => ?_)
    · refine V_iconst (v := 0) d_PF_close_24 (by decide) ?_
      exact V_zreturn d_PF_close_25 rfl nz0 (by rw [if_neg (fun z => z.1 h11)]; exact ⟨rfl, hW⟩)
    · refine V_aload_n d_PF_close_14 rfl (isr_ref _) ?_
      refine V_getf d_PF_close_15 f_PF_62 (PW_c hW (by omega) (fun _ => rfl)) rfl ?_
      refine V_sipush (v := 3000) d_PF_close_18 (by decide) ?_
      refine V_icmp_lt 26 d_PF_close_21 (by decide) (fun h21 => ?_) (fun h21 => ?_)
      · refine V_aload_n d_PF_close_26 rfl (isr_ref _) ?_
        refine V_getf d_PF_close_27 f_PF_46 (PW_c hW (by omega) (fun _ => rfl)) rfl ?_
        rw [hin]
        refine V_callV (As := []) (rest := []) (k' := 0) (n' := 0) (T := T_OpL) (N := 10) (PW_z hW ha) rfl d_PF_close_30 c_PF_94 ⟨by decide, by decide⟩ rfl rfl (Nat.le_of_ble_eq_true rfl) rfl rfl (OpL_toBox hz hfi (PW_z hW ha)) (fun r M1 hq9 => ?_)
        unfold tbQ at hq9
        split at hq9
        · next htb =>
            obtain ⟨q, hq, rfl, rfl⟩ := hq9
            obtain ⟨hW, hZq⟩ := PW_new hW hq (.inr (1, bxv v t.1.toInt32 t.2.1.toInt32 t.2.2.toInt32 fi (it + 1) (ne + 1)))
            have hc : clc s x ne t := ⟨h11, h21, htb⟩
            refine V_astore_n (lv' := [(2, .ref q), (0, .ref (adr 0)), (1, .int x)]) d_PF_close_33 (isr_ref _) (by decide) rfl ?_
            refine V_aload_n d_PF_close_34 rfl (isr_ref _) ?_
            refine V_ifnonnull 40 (isr_ref _) d_PF_close_35 (by decide) (fun a35 h35 => ?_) (fun h35 => ?_)
            · obtain ⟨k, hk, rfl⟩ := irg_ex h11
              refine V_aload_n d_PF_close_40 rfl (isr_ref _) ?_
              refine V_aload_n d_PF_close_41 rfl (isr_ref _) ?_
              refine V_getf d_PF_close_42 f_PF_46 (PW_c hW (by omega) (fun _ => rfl)) rfl ?_
              rw [hin]
              refine V_getf d_PF_close_45 f_PF_98 (PW_z hW (opl_mu hZq ha)) rfl ?_
              refine VW_put hW (by omega) d_PF_close_48 f_PF_46 (fun _ => rfl) (isr_nar (isr_rf _)) (isr_fit (isr_rf _)) (Nat.le_of_ble_eq_true rfl) (fun _ => pC_in oo) rfl rfl (fun M1 hW => ?_)
              refine V_aload_n d_PF_close_51 rfl (isr_ref _) ?_
              refine V_dup d_PF_close_52 rfl ?_
              refine V_getf d_PF_close_53 f_PF_62 (PW_c hW (by omega) (fun _ => rfl)) rfl ?_
              refine V_iconst (v := 1) d_PF_close_56 (by decide) ?_
              refine V_iadd d_PF_close_57 ?_
              refine VW_put hW (by omega) d_PF_close_58 f_PF_62 (fun _ => rfl) (rfl) (rfl) (Nat.le_of_ble_eq_true rfl) (fun _ => pC_i5 _) rfl rfl (fun M1 hW => ?_)
              have hW : PW ac adr (clX s oo) _ _ := hW
              refine V_aload_n d_PF_close_61 rfl (isr_ref _) ?_
              refine V_iload_n d_PF_close_62 rfl ?_
              cases hk2 : s.2.1 k with
              | none =>
                have hk3 : (clX s oo).2.1 k = none := (clX_8 s oo hk).trans hk2
                cases hr0 k rfl hk hk2
                refine V_c0 (As := [.int (nI k)]) (rest := []) (T := T_PF) (N := 12) (PW_c (p := 0) hW (by omega) (fun _ => rfl)) rfl d_PF_close_63 c_PF_101 ⟨by decide, by decide⟩ rfl rfl (Nat.le_of_ble_eq_true rfl) (PF_dropBox0 hW hk hk3) (fun r M1 hq9 => ?_)
                obtain ⟨rfl, hW⟩ := hq9
                refine V_lv [1, 2, 0] rfl ?_
                exact PFc_66 hW hk (mu_self _ _ _) (fun M2 h2 => by rw [if_pos hc, nI_clamp (by omega)]; exact ⟨q, hZq, rfl, by rw [← clS_0]; exact h2⟩)
              | some p =>
                have hk3 : (clX s oo).2.1 k = some p := (clX_8 s oo hk).trans hk2
                obtain ⟨rv, rw9, rh, rd, rn, rf, hR⟩ := hr1 k p rfl hk hk2
                refine V_c0 (As := [.int (nI k)]) (rest := []) (T := T_PF) (N := 12) (PW_c (p := 0) hW (by omega) (fun _ => rfl)) rfl d_PF_close_63 c_PF_101 ⟨by decide, by decide⟩ rfl rfl (Nat.le_of_ble_eq_true rfl) (PF_dropBox1 hW hk hk3 (opl_mu hZq hR)) (fun r M1 hq9 => ?_)
                obtain ⟨rfl, hW⟩ := hq9
                refine V_lv [1, 2, 0] rfl ?_
                exact PFc_66 hW hk (mu_self _ _ _) (fun M2 h2 => by rw [if_pos hc, nI_clamp (by omega)]; exact ⟨q, hZq, rfl, by rw [← clS_1]; exact h2⟩)
            · cases h35
        · next htb =>
            obtain ⟨rfl, rfl⟩ := hq9
            refine V_astore_n (lv' := [(2, .null), (0, .ref (adr 0)), (1, .int x)]) d_PF_close_33 (isr_null) (by decide) rfl ?_
            refine V_aload_n d_PF_close_34 rfl (isr_null) ?_
            refine V_ifnonnull 40 (isr_null) d_PF_close_35 (by decide) (fun a35 h35 => ?_) (fun h35 => ?_)
            · cases h35
            · refine V_iconst (v := 0) d_PF_close_38 (by decide) ?_
              exact V_zreturn d_PF_close_39 rfl nz0 (by rw [if_neg (fun z => htb z.2.2)]; exact ⟨rfl, hW⟩)
      · refine V_iconst (v := 0) d_PF_close_24 (by decide) ?_
        exact V_zreturn d_PF_close_25 rfl nz0 (by rw [if_neg (fun z => h21 z.2.1)]; exact ⟨rfl, hW⟩)
abbrev ptc (s : PS) (bi sh cp : Int32) : Prop := ¬ iszl sh.toInt64 = 0 ∧ (cp = 0 ∨ s.1 5 + bi ≤ 3000)
def ptS (s : PS) (k : Nat) (bi cp : Int32) : PS := if cp = 0 then drS s k bi else s
def ptE (s : PS) (k : Nat) (bi cp : Int32) : PS := uI (ptS s k bi cp) 5 ((ptS s k bi cp).1 5 + bi)
theorem ptS_8 (s : PS) {k : Nat} (hk : k < 8) (bi cp : Int32) : (ptS s k bi cp).2.1 8 = s.2.1 8 := by
  unfold ptS drS
  split
  · exact va_up_ne _ _ (by omega)
  · rfl
set_option maxRecDepth 100000 in
set_option maxHeartbeats 4000000 in
theorem PFp_60 {l : Launch} {D : va_G} {ac : Nat → ClassId} {adr : Nat → Nat} {s : PS} {Z M : MP} (hW : PW ac adr s Z M) {b : Nat} (hin : s.2.1 8 = some b) {v le it ne : Int32} {lo : Option Nat} {ou fi bc : Value} {t : T3} {Ic : Nat → Int32} (ha : Z b = some (.inr (6, olv v ou le fi (va_rf lo) it ne t))) (hlo : ∀ c, lo = some c → ∃ nc, Z c = some (.inr (5, itv Ic bc nc))) {p : Nat} {bv bw bh bd bi bn : Int32} {bf : Value} (hB : Z p = some (.inr (1, bxv bv bw bh bd bf bi bn))) {x sh cp : Int32} {Q : Option Value → MP → Prop} (hQ : ∀ q, Z q = none → ∀ M', PW ac adr (uI s 5 (s.1 5 + bi)) (adZ Z b q (itI 3 bw bh bd 0 0 0 sh) (some p) lo Ic bc v ou le fi it ne bi bn t) M' → Q (some (.int 1)) M') : V l D (tyl ac) t_PF_put 1 10 60 [(0, .ref (adr 0)), (1, .int x), (2, .int sh), (3, .int cp), (4, .ref p)] [] M Q := by
  refine V_new (k' := 0) (n' := 0) d_PF_put_60 n_PF_69 rfl rfl (fun q hq => ?_)
  have hWz := (PW_new hW hq (.inr (5, itv (itI 0 0 0 0 0 0 0 0) .null .null))).1
  have hZq := (PW_new hW hq (.inr (5, itv (itI 0 0 0 0 0 0 0 0) .null .null))).2
  refine V_dup d_PF_put_63 rfl ?_
  refine V_iconst (v := 3) d_PF_put_64 (by decide) ?_
  refine V_aload d_PF_put_65 rfl (isr_ref _) ?_
  refine V_getf d_PF_put_67 f_PF_110 (PW_z hWz (opl_mu hZq hB)) rfl ?_
  refine V_aload d_PF_put_70 rfl (isr_ref _) ?_
  refine V_getf d_PF_put_72 f_PF_113 (PW_z hWz (opl_mu hZq hB)) rfl ?_
  refine V_aload d_PF_put_75 rfl (isr_ref _) ?_
  refine V_getf d_PF_put_77 f_PF_116 (PW_z hWz (opl_mu hZq hB)) rfl ?_
  refine V_callI (As := [.int 3, .int bw, .int bh, .int bd]) (rest := [.ref q]) (b := q) (k' := 0) (n' := 0) d_PF_put_80 c_PF_71 ⟨by decide, by decide⟩ rfl rfl (Nat.le_of_ble_eq_true rfl) rfl rfl (Itm_init (mu_self _ _ _)) (fun x M1 hq9 => ?_)
  obtain ⟨rfl, rfl⟩ := hq9
  rw [mu_mu]
  refine V_astore (lv' := [(5, .ref q), (0, .ref (adr 0)), (1, .int x), (2, .int sh), (3, .int cp), (4, .ref p)]) d_PF_put_83 (isr_ref _) (by decide) rfl ?_
  refine V_aload d_PF_put_85 rfl (isr_ref _) ?_
  refine V_aload d_PF_put_87 rfl (isr_ref _) ?_
  refine V_putf d_PF_put_89 f_PF_119 (mu_self _ _ _) (rfl) (rfl) (Nat.le_of_ble_eq_true rfl) ?_
  rw [mu_mu]
  refine V_aload d_PF_put_92 rfl (isr_ref _) ?_
  refine V_iload_n d_PF_put_94 rfl ?_
  refine V_putf d_PF_put_95 f_PF_123 (mu_self _ _ _) (rfl) (rfl) (Nat.le_of_ble_eq_true rfl) ?_
  rw [mu_mu]
  refine V_aload_n d_PF_put_98 rfl (isr_ref _) ?_
  have hWx := (PW_new hW hq (.inr (5, itv (itI 3 bw bh bd 0 0 0 sh) (.ref p) .null))).1
  refine V_getf d_PF_put_99 f_PF_46 (PW_c (p := 0) hWx (by omega) (fun _ => rfl)) rfl ?_
  rw [hin]
  refine V_aload d_PF_put_102 rfl (isr_ref _) ?_
  obtain ⟨hWn, hZq⟩ := PW_new hW hq (.inr (5, itv (itI 3 bw bh bd 0 0 0 sh) (va_rf (some p)) .null))
  refine V_c0 (As := [.ref q]) (rest := []) (T := T_OpL) (N := 10) (PW_z hWn (opl_mu hZq ha)) rfl d_PF_put_104 c_PF_80 ⟨by decide, by decide⟩ rfl rfl (Nat.le_of_ble_eq_true rfl) (OpL_joinW (bo := (some p)) (bi := bi) (bn := bn) (Ic := Ic) (bc := bc) hWn (opl_mu hZq ha) (mu_self _ _ _) (fun c hc9 => by obtain ⟨nc, h1⟩ := hlo c hc9; exact ⟨nc, opl_mu hZq h1, opl_ne hZq h1⟩) (fun q9 z => by cases z; exact ⟨bv, bw, bh, bd, bf, opl_mu hZq hB⟩)) (fun r M1 hq9 => ?_)
  obtain ⟨rfl, hW⟩ := hq9
  have hpb : p ≠ b := fun z => by rw [z, ha] at hB; cases hB
  have hB2 : adZ Z b q (itI 3 bw bh bd 0 0 0 sh) (some p) lo Ic bc v ou le fi it ne bi bn t p = some (.inr (1, bxv bv bw bh bd bf bi bn)) := by
    unfold adZ
    rw [mu_ne _ _ hpb]
    cases lo with
    | none => exact opl_mu hZq hB
    | some c =>
      obtain ⟨nc, h1⟩ := hlo c rfl
      exact (mu_ne _ _ (fun z => by rw [z, h1] at hB; cases hB)).trans (opl_mu hZq hB)
  refine V_aload_n d_PF_put_107 rfl (isr_ref _) ?_
  refine V_dup d_PF_put_108 rfl ?_
  refine V_getf d_PF_put_109 f_PF_62 (PW_c hW (by omega) (fun _ => rfl)) rfl ?_
  refine V_aload d_PF_put_112 rfl (isr_ref _) ?_
  refine V_getf d_PF_put_114 f_PF_109 (PW_z hW hB2) rfl ?_
  refine V_iadd d_PF_put_117 ?_
  refine VW_put hW (by omega) d_PF_put_118 f_PF_62 (fun _ => rfl) (rfl) (rfl) (Nat.le_of_ble_eq_true rfl) (fun _ => pC_i5 _) rfl rfl (fun M1 hW => ?_)
  refine V_iconst (v := 1) d_PF_put_121 (by decide) ?_
  exact V_zreturn d_PF_put_122 rfl nz1 (hQ q hZq _ hW)
set_option maxRecDepth 100000 in
set_option maxHeartbeats 4000000 in
theorem PF_put0 {l : Launch} {D : va_G} {ac : Nat → ClassId} {adr : Nat → Nat} {s : PS} {Z M : MP} (hW : PW ac adr s Z M) (hin : s.2.1 8 = none) (x sh cp : Int32) : Ct l D (tyl ac) t_PF_put 1 10 [.ref (adr 0), .int x, .int sh, .int cp] M (fun r M' => r = some (.int 0) ∧ PW ac adr s Z M') := by
  refine Ct_of (by decide) (Nat.le_of_ble_eq_true rfl) ?_
  refine V_aload_n d_PF_put_0 rfl (isr_ref _) ?_
  refine V_iload_n d_PF_put_1 rfl ?_
  refine V_rd (As := [.int (x)]) (rest := []) (T := T_PF) (N := 12) (PW_c (p := 0) hW (by omega) (fun _ => rfl)) rfl d_PF_put_2 c_PF_105 ⟨by decide, by decide⟩ rfl rfl (Nat.le_of_ble_eq_true rfl) (PF_boxOf hW _) ?_
  refine V_astore (lv' := [(4, va_rf (boV s x)), (0, .ref (adr 0)), (1, .int x), (2, .int sh), (3, .int cp)]) d_PF_put_5 (isr_rf _) (by decide) rfl ?_
  refine V_aload_n d_PF_put_7 rfl (isr_ref _) ?_
  refine V_getf d_PF_put_8 f_PF_46 (PW_c hW (by omega) (fun _ => rfl)) rfl ?_
  rw [hin]
  refine V_ifnull 27 (isr_rf none) d_PF_put_11 (by decide) (fun h11 => ?_) (fun a11 h11 => ?_)
  · refine V_iconst (v := 0) d_PF_put_27 (by decide) ?_
    exact V_zreturn d_PF_put_28 rfl nz0 ⟨rfl, hW⟩
  · cases h11
set_option maxRecDepth 100000 in
set_option maxHeartbeats 4000000 in
theorem PF_put1 {l : Launch} {D : va_G} {ac : Nat → ClassId} {adr : Nat → Nat} {s : PS} {Z M : MP} (hW : PW ac adr s Z M) {b : Nat} (hin : s.2.1 8 = some b) {x : Int32} (hbx : boV s x = none) (sh cp : Int32) : Ct l D (tyl ac) t_PF_put 1 10 [.ref (adr 0), .int x, .int sh, .int cp] M (fun r M' => r = some (.int 0) ∧ PW ac adr s Z M') := by
  refine Ct_of (by decide) (Nat.le_of_ble_eq_true rfl) ?_
  refine V_aload_n d_PF_put_0 rfl (isr_ref _) ?_
  refine V_iload_n d_PF_put_1 rfl ?_
  refine V_rd (As := [.int (x)]) (rest := []) (T := T_PF) (N := 12) (PW_c (p := 0) hW (by omega) (fun _ => rfl)) rfl d_PF_put_2 c_PF_105 ⟨by decide, by decide⟩ rfl rfl (Nat.le_of_ble_eq_true rfl) (PF_boxOf hW _) ?_
  rw [hbx]
  refine V_astore (lv' := [(4, .null), (0, .ref (adr 0)), (1, .int x), (2, .int sh), (3, .int cp)]) d_PF_put_5 (isr_null) (by decide) rfl ?_
  refine V_aload_n d_PF_put_7 rfl (isr_ref _) ?_
  refine V_getf d_PF_put_8 f_PF_46 (PW_c hW (by omega) (fun _ => rfl)) rfl ?_
  rw [hin]
  refine V_ifnull 27 (isr_rf (some b)) d_PF_put_11 (by decide) (fun h11 => ?_) (fun a11 h11 => ?_)
  · cases h11
  · refine V_aload d_PF_put_14 rfl (isr_null) ?_
    refine V_ifnull 27 (isr_null) d_PF_put_16 (by decide) (fun h16 => ?_) (fun a16 h16 => ?_)
    · refine V_iconst (v := 0) d_PF_put_27 (by decide) ?_
      exact V_zreturn d_PF_put_28 rfl nz0 ⟨rfl, hW⟩
    · cases h16
set_option maxRecDepth 100000 in
set_option maxHeartbeats 4000000 in
theorem PF_put2 {l : Launch} {D : va_G} {ac : Nat → ClassId} {adr : Nat → Nat} {s : PS} {Z M : MP} (hW : PW ac adr s Z M) {b : Nat} (hin : s.2.1 8 = some b) {v le it ne : Int32} {lo : Option Nat} {ou fi bc : Value} {t : T3} {Ic : Nat → Int32} (ha : Z b = some (.inr (6, olv v ou le fi (va_rf lo) it ne t))) (hlo : ∀ c, lo = some c → ∃ nc, Z c = some (.inr (5, itv Ic bc nc))) {p : Nat} {bv bw bh bd bi bn : Int32} {bf : Value} (hB : Z p = some (.inr (1, bxv bv bw bh bd bf bi bn))) {x : Int32} (hbx : boV s x = some p) (sh cp : Int32) : Ct l D (tyl ac) t_PF_put 1 10 [.ref (adr 0), .int x, .int sh, .int cp] M (fun r M' => if ptc s bi sh cp then ∃ q, Z q = none ∧ r = some (.int 1) ∧ PW ac adr (ptE s x.toNatClampNeg bi cp) (adZ Z b q (itI 3 bw bh bd 0 0 0 sh) (some p) lo Ic bc v ou le fi it ne bi bn t) M' else r = some (.int 0) ∧ PW ac adr s Z M') := by
  refine Ct_of (by decide) (Nat.le_of_ble_eq_true rfl) ?_
  refine V_aload_n d_PF_put_0 rfl (isr_ref _) ?_
  refine V_iload_n d_PF_put_1 rfl ?_
  refine V_rd (As := [.int (x)]) (rest := []) (T := T_PF) (N := 12) (PW_c (p := 0) hW (by omega) (fun _ => rfl)) rfl d_PF_put_2 c_PF_105 ⟨by decide, by decide⟩ rfl rfl (Nat.le_of_ble_eq_true rfl) (PF_boxOf hW _) ?_
  rw [hbx]
  refine V_astore (lv' := [(4, .ref p), (0, .ref (adr 0)), (1, .int x), (2, .int sh), (3, .int cp)]) d_PF_put_5 (isr_ref _) (by decide) rfl ?_
  refine V_aload_n d_PF_put_7 rfl (isr_ref _) ?_
  refine V_getf d_PF_put_8 f_PF_46 (PW_c hW (by omega) (fun _ => rfl)) rfl ?_
  rw [hin]
  refine V_ifnull 27 (isr_rf (some b)) d_PF_put_11 (by decide) (fun h11 => ?_) (fun a11 h11 => ?_)
  · cases h11
  · refine V_aload d_PF_put_14 rfl (isr_ref _) ?_
    refine V_ifnull 27 (isr_ref _) d_PF_put_16 (by decide) (fun h16 => ?_) (fun a16 h16 => ?_)
    · cases h16
    · refine V_iload_n d_PF_put_19 rfl ?_
      refine V_i2l d_PF_put_20 ?_
      refine VS_ci1 d_PF_put_21 c_PF_87 (PF_isSize _) ⟨by decide, by decide⟩ (Nat.le_of_ble_eq_true rfl) ?_
      refine V_if_ne 29 d_PF_put_24 (by decide) (fun h24 => ?_) (fun h24 => ?_)
      · refine V_iload_n d_PF_put_29 rfl ?_
        refine V_if_eq 51 d_PF_put_30 (by decide) (fun h30 => ?_) (fun h30 => ?_)
        · have hc : ptc s bi sh cp := ⟨h24, Or.inl h30⟩
          refine V_iload_n d_PF_put_51 rfl ?_
          refine V_if_ne 60 d_PF_put_52 (by decide) (fun h52 => ?_) (fun h52 => ?_)
          · exact absurd h30 h52
          · obtain ⟨k, hk, rfl, hk2⟩ := boV_ex hbx
            refine V_aload_n d_PF_put_55 rfl (isr_ref _) ?_
            refine V_iload_n d_PF_put_56 rfl ?_
            refine V_c0 (As := [.int (nI k)]) (rest := []) (T := T_PF) (N := 12) (PW_c (p := 0) hW (by omega) (fun _ => rfl)) rfl d_PF_put_57 c_PF_101 ⟨by decide, by decide⟩ rfl rfl (Nat.le_of_ble_eq_true rfl) (PF_dropBox1 hW hk hk2 hB) (fun r M1 hq9 => ?_)
            obtain ⟨rfl, hW⟩ := hq9
            refine V_lv [1, 2, 3, 4, 0] rfl ?_
            exact PFp_60 (s := drS s k bi) hW ((va_up_ne _ _ (by omega)).trans hin) ha hlo hB (fun q hZq M2 h2 => by rw [if_pos hc, nI_clamp (by omega)]; exact ⟨q, hZq, rfl, by rw [ptE, ptS, if_pos h30]; exact h2⟩)
        · refine V_aload_n d_PF_put_33 rfl (isr_ref _) ?_
          refine V_getf d_PF_put_34 f_PF_62 (PW_c hW (by omega) (fun _ => rfl)) rfl ?_
          refine V_aload d_PF_put_37 rfl (isr_ref _) ?_
          refine V_getf d_PF_put_39 f_PF_109 (PW_z hW hB) rfl ?_
          refine V_iadd d_PF_put_42 ?_
          refine V_sipush (v := 3000) d_PF_put_43 (by decide) ?_
          refine V_icmp_le 51 d_PF_put_46 (by decide) (fun h46 => ?_) (fun h46 => ?_)
          · have hc : ptc s bi sh cp := ⟨h24, Or.inr h46⟩
            refine V_iload_n d_PF_put_51 rfl ?_
            refine V_if_ne 60 d_PF_put_52 (by decide) (fun h52 => ?_) (fun h52 => ?_)
            · refine V_lv [1, 2, 3, 4, 0] rfl ?_
              exact PFp_60 hW hin ha hlo hB (fun q hZq M2 h2 => by rw [if_pos hc]; exact ⟨q, hZq, rfl, by rw [ptE, ptS, if_neg h52]; exact h2⟩)
            · exact absurd h52 (fun z => z h30)
          · refine V_iconst (v := 0) d_PF_put_49 (by decide) ?_
            exact V_zreturn d_PF_put_50 rfl nz0 (by rw [if_neg (fun z => z.2.elim h30 h46)]; exact ⟨rfl, hW⟩)
      · refine V_iconst (v := 0) d_PF_put_27 (by decide) ?_
        exact V_zreturn d_PF_put_28 rfl nz0 (by rw [if_neg (fun z => z.1 (Classical.not_not.mp h24))]; exact ⟨rfl, hW⟩)
