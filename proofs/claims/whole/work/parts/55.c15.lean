/-! PageFile's small methods -/
def boV (s : PS) (x : Int32) : Option Nat := if irg x = 0 then none else s.2.1 x.toNatClampNeg
theorem irg_nI {m : Nat} (hm : m < 8) : ¬ irg (nI m) = 0 := by
  rw [irg, if_pos ⟨nI_pos (by omega), show ¬ nI 8 ≤ nI m from nI_ge hm (by decide)⟩]
  decide
theorem irg_ex {x : Int32} (h : ¬ irg x = 0) : ∃ m, m < 8 ∧ x = nI m := by
  unfold irg at h
  by_cases g : ¬ x < 0 ∧ ¬ 8 ≤ x
  · exact nI_8 g.1 g.2
  · rw [if_neg g] at h; exact absurd rfl h
theorem boV_nI (s : PS) {m : Nat} (hm : m < 8) : boV s (nI m) = s.2.1 m := by rw [boV, if_neg (irg_nI hm), nI_clamp (by omega)]
theorem boV_ex {s : PS} {x : Int32} {q : Nat} (h : boV s x = some q) : ∃ m, m < 8 ∧ x = nI m ∧ s.2.1 m = some q := by
  unfold boV at h
  split at h
  · cases h
  · next g =>
    obtain ⟨m, hm, rfl⟩ := irg_ex g
    rw [nI_clamp (by omega)] at h
    exact ⟨m, hm, rfl, h⟩
set_option maxRecDepth 100000 in
set_option maxHeartbeats 4000000 in
theorem PF_boxOf {l : Launch} {D : va_G} {ac : Nat → ClassId} {adr : Nat → Nat} {s : PS} {Z M : MP} (hW : PW ac adr s Z M) (x : Int32) : Ct l D (tyl ac) t_PF_boxOf 0 0 [.ref (adr 0), .int x] M (PQ (some (va_rf (boV s x))) M) := by
  refine Ct_of (by decide) (Nat.le_of_ble_eq_true rfl) ?_
  refine V_iload_n d_PF_boxOf_0 rfl ?_
  refine VS_ci1 d_PF_boxOf_1 c_PF_91 (PF_isRegister _) ⟨by decide, by decide⟩ (Nat.le_of_ble_eq_true rfl) ?_
  refine V_if_eq 16 d_PF_boxOf_4 (by decide) (fun h4 => ?_) (fun h4 => ?_)
  · refine V_null d_PF_boxOf_16 ?_
    exact V_areturn d_PF_boxOf_17 rfl (Or.inl ⟨_, rfl⟩) isr_null ⟨by rw [boV, if_pos h4]; rfl, rfl⟩
  · obtain ⟨m, hm, rfl⟩ := irg_ex h4
    refine V_aload_n d_PF_boxOf_7 rfl (isr_ref _) ?_
    refine V_getf d_PF_boxOf_8 f_PF_11 (PW_c hW (by omega) (fun _ => rfl)) rfl ?_
    refine V_iload_n d_PF_boxOf_11 rfl ?_
    refine V_aald d_PF_boxOf_12 (PW_c (p := 6) hW (by omega) (fun _ => rfl)) (vp_in_nI hm (by decide)) ?_
    refine V_goto 17 d_PF_boxOf_13 (by decide) ?_
    exact V_areturn d_PF_boxOf_17 rfl (Or.inl ⟨_, rfl⟩) (isr_rf _) ⟨by rw [boV_nI s hm, nI_clamp (by omega), rg8, if_pos hm], rfl⟩
def drS (s : PS) (k : Nat) (it : Int32) : PS := uR (uI s 5 (s.1 5 - it)) k none
set_option maxRecDepth 100000 in
set_option maxHeartbeats 4000000 in
theorem PF_dropBox0 {l : Launch} {D : va_G} {ac : Nat → ClassId} {adr : Nat → Nat} {s : PS} {Z M : MP} (hW : PW ac adr s Z M) {k : Nat} (hk : k < 8) (hk2 : s.2.1 k = none) : Ct l D (tyl ac) t_PF_dropBox 0 0 [.ref (adr 0), .int (nI k)] M (fun r M' => r = none ∧ PW ac adr (s) Z M') := by
  refine Ct_of (by decide) (Nat.le_of_ble_eq_true rfl) ?_
  refine V_aload_n d_PF_dropBox_0 rfl (isr_ref _) ?_
  refine V_iload_n d_PF_dropBox_1 rfl ?_
  refine V_rd (As := [.int (nI k)]) (rest := []) (T := T_PF) (N := 12) (PW_c (p := 0) hW (by omega) (fun _ => rfl)) rfl d_PF_dropBox_2 c_PF_105 ⟨by decide, by decide⟩ rfl rfl (Nat.le_of_ble_eq_true rfl) (PF_boxOf hW _) ?_
  rw [boV_nI s hk, hk2]
  refine V_astore_n (lv' := [(2, .null), (0, .ref (adr 0)), (1, .int (nI k))]) d_PF_dropBox_5 (isr_null) (by decide) rfl ?_
  refine V_aload_n d_PF_dropBox_6 rfl (isr_null) ?_
  refine V_ifnull 30 (isr_null) d_PF_dropBox_7 (by decide) (fun h7 => ?_) (fun a7 h7 => ?_)
  · exact V_return d_PF_dropBox_30 rfl ⟨rfl, hW⟩
  · cases h7
set_option maxRecDepth 100000 in
set_option maxHeartbeats 4000000 in
theorem PF_dropBox1 {l : Launch} {D : va_G} {ac : Nat → ClassId} {adr : Nat → Nat} {s : PS} {Z M : MP} (hW : PW ac adr s Z M) {k : Nat} (hk : k < 8) {q : Nat} (hk2 : s.2.1 k = some q) {v w h d it ne : Int32} {fi : Value} (hB : Z q = some (.inr (1, bxv v w h d fi it ne))) : Ct l D (tyl ac) t_PF_dropBox 0 0 [.ref (adr 0), .int (nI k)] M (fun r M' => r = none ∧ PW ac adr (drS s k it) Z M') := by
  refine Ct_of (by decide) (Nat.le_of_ble_eq_true rfl) ?_
  refine V_aload_n d_PF_dropBox_0 rfl (isr_ref _) ?_
  refine V_iload_n d_PF_dropBox_1 rfl ?_
  refine V_rd (As := [.int (nI k)]) (rest := []) (T := T_PF) (N := 12) (PW_c (p := 0) hW (by omega) (fun _ => rfl)) rfl d_PF_dropBox_2 c_PF_105 ⟨by decide, by decide⟩ rfl rfl (Nat.le_of_ble_eq_true rfl) (PF_boxOf hW _) ?_
  rw [boV_nI s hk, hk2]
  refine V_astore_n (lv' := [(2, .ref q), (0, .ref (adr 0)), (1, .int (nI k))]) d_PF_dropBox_5 (isr_ref _) (by decide) rfl ?_
  refine V_aload_n d_PF_dropBox_6 rfl (isr_ref _) ?_
  refine V_ifnull 30 (isr_ref _) d_PF_dropBox_7 (by decide) (fun h7 => ?_) (fun a7 h7 => ?_)
  · cases h7
  · refine V_aload_n d_PF_dropBox_10 rfl (isr_ref _) ?_
    refine V_dup d_PF_dropBox_11 rfl ?_
    refine V_getf d_PF_dropBox_12 f_PF_62 (PW_c hW (by omega) (fun _ => rfl)) rfl ?_
    refine V_aload_n d_PF_dropBox_15 rfl (isr_ref _) ?_
    refine V_getf d_PF_dropBox_16 f_PF_109 (PW_z hW hB) rfl ?_
    refine V_isub d_PF_dropBox_19 ?_
    refine VW_put hW (by omega) d_PF_dropBox_20 f_PF_62 (fun _ => rfl) (rfl) (rfl) (Nat.le_of_ble_eq_true rfl) (fun _ => pC_i5 _) rfl rfl (fun M1 hW => ?_)
    refine V_aload_n d_PF_dropBox_23 rfl (isr_ref _) ?_
    refine V_getf d_PF_dropBox_24 f_PF_11 (PW_c hW (by omega) (fun _ => rfl)) rfl ?_
    refine V_iload_n d_PF_dropBox_27 rfl ?_
    refine V_null d_PF_dropBox_28 ?_
    refine V_aastN d_PF_dropBox_29 (PW_c (p := 6) hW (by omega) (fun _ => rfl)) (vp_in_nI hk (by decide)) ?_
    rw [nI_clamp (by omega)]
    exact V_return d_PF_dropBox_30 rfl ⟨rfl, PW_set (p := 6) hW (by omega) (fun _ => pC_r hk none) rfl rfl⟩
set_option maxRecDepth 100000 in
set_option maxHeartbeats 4000000 in
theorem PF_byteAt {l : Launch} {D : va_G} {ac : Nat → ClassId} {adr : Nat → Nat} {s : PS} {Z M : MP} (hW : PW ac adr s Z M) (x : Int32) : Ct l D (tyl ac) t_PF_byteAt 0 0 [.ref (adr 0), .int x] M (PQ (some (.int (byg (xF s).2.2 (xF s).1 x))) M) := by
  refine Ct_of (by decide) (Nat.le_of_ble_eq_true rfl) ?_
  obtain ⟨ra, hb⟩ := PW_len hW
  refine V_aload_n d_PF_byteAt_0 rfl (isr_ref _) ?_
  refine V_getf d_PF_byteAt_1 f_PF_26 (PW_c hW (by omega) (fun _ => rfl)) rfl ?_
  refine V_iload_n d_PF_byteAt_4 rfl ?_
  refine V_rd (As := [.int x]) (rest := []) (T := T_Byt) (N := 2) hb rfl d_PF_byteAt_5 c_PF_184 ⟨by decide, by decide⟩ rfl rfl (Nat.le_of_ble_eq_true rfl) (Byt_getW hW _) ?_
  exact V_ireturn d_PF_byteAt_8 rfl ⟨rfl, rfl⟩
def lvV (o : Option Nat) (le : Int32) : Int32 := match o with
  | none => 0
  | some _ => le
def pcn (s : PS) (le x : Int32) : Int32 := if x = 0 then nI (xF s).1 else if x = 1 then s.1 6 else if x = 2 then lvV (s.2.1 8) le else if x = 3 then s.1 5 else if x = 4 then (if s.1 11 = 0 then 0 else 1) else -1
theorem ti_ne {x y : Int32} (h : ¬ x = y) : ¬ x.toInt = y.toInt := fun z => h (Int32.toInt_inj.mp z)
set_option maxRecDepth 100000 in
set_option maxHeartbeats 4000000 in
theorem PF_count {l : Launch} {D : va_G} {ac : Nat → ClassId} {adr : Nat → Nat} {s : PS} {Z M : MP} (hW : PW ac adr s Z M) {le : Int32} (hle : ∀ b, s.2.1 8 = some b → ∃ fs, Z b = some (.inr (6, fs)) ∧ fs[2]? = some (.int le)) (x : Int32) : Ct l D (tyl ac) t_PF_count 0 0 [.ref (adr 0), .int x] M (PQ (some (.int (pcn s le x))) M) := by
  refine Ct_of (by decide) (Nat.le_of_ble_eq_true rfl) ?_
  obtain ⟨ra, hb⟩ := PW_len hW
  refine V_iload_n d_PF_count_0 rfl ?_
  by_cases c0 : x = 0
  · refine V_eqi c0 ?_
    refine V_tabIn 36 d_PF_count_1 (by decide) (by decide) rfl (by decide) ?_
    refine V_aload_n d_PF_count_36 rfl (isr_ref _) ?_
    refine V_getf d_PF_count_37 f_PF_26 (PW_c hW (by omega) (fun _ => rfl)) rfl ?_
    refine V_getfN d_PF_count_40 f_PF_136 (hb) rfl ?_
    exact V_ireturn d_PF_count_43 rfl ⟨by rw [pcn, if_pos c0], rfl⟩
  by_cases c1 : x = 1
  · refine V_eqi c1 ?_
    refine V_tabIn 44 d_PF_count_1 (by decide) (by decide) rfl (by decide) ?_
    refine V_aload_n d_PF_count_44 rfl (isr_ref _) ?_
    refine V_getf d_PF_count_45 f_PF_174 (PW_c hW (by omega) (fun _ => rfl)) rfl ?_
    exact V_ireturn d_PF_count_48 rfl ⟨by rw [pcn, if_neg c0, if_pos c1], rfl⟩
  by_cases c2 : x = 2
  · refine V_eqi c2 ?_
    refine V_tabIn 49 d_PF_count_1 (by decide) (by decide) rfl (by decide) ?_
    refine V_aload_n d_PF_count_49 rfl (isr_ref _) ?_
    refine V_getf d_PF_count_50 f_PF_46 (PW_c hW (by omega) (fun _ => rfl)) rfl ?_
    cases hin : s.2.1 8 with
    | none =>
      refine V_ifnonnull 60 (isr_rf none) d_PF_count_53 (by decide) (fun a53 h53 => ?_) (fun h53 => ?_)
      · cases h53
      · refine V_iconst (v := 0) d_PF_count_56 (by decide) ?_
        refine V_goto 67 d_PF_count_57 (by decide) ?_
        exact V_ireturn d_PF_count_67 rfl ⟨by rw [pcn, if_neg c0, if_neg c1, if_pos c2, hin]; rfl, rfl⟩
    | some b =>
      obtain ⟨fs, hl1, hl2⟩ := hle b hin
      refine V_ifnonnull 60 (isr_rf (some b)) d_PF_count_53 (by decide) (fun a53 h53 => ?_) (fun h53 => ?_)
      · refine V_aload_n d_PF_count_60 rfl (isr_ref _) ?_
        refine V_getf d_PF_count_61 f_PF_46 (PW_c hW (by omega) (fun _ => rfl)) rfl ?_
        rw [hin]
        refine V_getf d_PF_count_64 f_PF_50 (PW_z hW hl1) hl2 ?_
        exact V_ireturn d_PF_count_67 rfl ⟨by rw [pcn, if_neg c0, if_neg c1, if_pos c2, hin]; rfl, rfl⟩
      · cases h53
  by_cases c3 : x = 3
  · refine V_eqi c3 ?_
    refine V_tabIn 68 d_PF_count_1 (by decide) (by decide) rfl (by decide) ?_
    refine V_aload_n d_PF_count_68 rfl (isr_ref _) ?_
    refine V_getf d_PF_count_69 f_PF_62 (PW_c hW (by omega) (fun _ => rfl)) rfl ?_
    exact V_ireturn d_PF_count_72 rfl ⟨by rw [pcn, if_neg c0, if_neg c1, if_neg c2, if_pos c3], rfl⟩
  by_cases c4 : x = 4
  · refine V_eqi c4 ?_
    refine V_tabIn 73 d_PF_count_1 (by decide) (by decide) rfl (by decide) ?_
    refine V_aload_n d_PF_count_73 rfl (isr_ref _) ?_
    refine V_getf d_PF_count_74 f_PF_126 (PW_c hW (by omega) (fun _ => rfl)) rfl ?_
    refine V_if_eq 84 d_PF_count_77 (by decide) (fun h77 => ?_) (fun h77 => ?_)
    · refine V_iconst (v := 0) d_PF_count_84 (by decide) ?_
      exact V_ireturn d_PF_count_85 rfl ⟨by rw [pcn, if_neg c0, if_neg c1, if_neg c2, if_neg c3, if_pos c4, if_pos h77], rfl⟩
    · refine V_iconst (v := 1) d_PF_count_80 (by decide) ?_
      refine V_goto 85 d_PF_count_81 (by decide) ?_
      exact V_ireturn d_PF_count_85 rfl ⟨by rw [pcn, if_neg c0, if_neg c1, if_neg c2, if_neg c3, if_pos c4, if_neg h77], rfl⟩
  have t0 := ti_ne c0
  have t1 := ti_ne c1
  have t2 := ti_ne c2
  have t3 := ti_ne c3
  have t4 := ti_ne c4
  simp only [show (0 : Int32).toInt = 0 from rfl, show (1 : Int32).toInt = 1 from rfl, show (2 : Int32).toInt = 2 from rfl, show (3 : Int32).toInt = 3 from rfl, show (4 : Int32).toInt = 4 from rfl] at t0 t1 t2 t3 t4
  refine V_tabOut 86 d_PF_count_1 (by omega) (by decide) ?_
  refine V_iconst (v := (-1)) d_PF_count_86 (by decide) ?_
  exact V_ireturn d_PF_count_87 rfl ⟨by rw [pcn, if_neg c0, if_neg c1, if_neg c2, if_neg c3, if_neg c4], rfl⟩
def psz (w h d x : Int32) : Int32 := if x = 0 then w else if x = 1 then h else if x = 2 then d else 0
set_option maxRecDepth 100000 in
set_option maxHeartbeats 4000000 in
theorem PF_size0 {l : Launch} {D : va_G} {ac : Nat → ClassId} {adr : Nat → Nat} {s : PS} {Z M : MP} (hW : PW ac adr s Z M) {y : Int32} (hq : boV s y = none) (x : Int32) : Ct l D (tyl ac) t_PF_size 0 0 [.ref (adr 0), .int y, .int x] M (PQ (some (.int (0))) M) := by
  refine Ct_of (by decide) (Nat.le_of_ble_eq_true rfl) ?_
  refine V_aload_n d_PF_size_0 rfl (isr_ref _) ?_
  refine V_iload_n d_PF_size_1 rfl ?_
  refine V_rd (As := [.int (y)]) (rest := []) (T := T_PF) (N := 12) (PW_c (p := 0) hW (by omega) (fun _ => rfl)) rfl d_PF_size_2 c_PF_105 ⟨by decide, by decide⟩ rfl rfl (Nat.le_of_ble_eq_true rfl) (PF_boxOf hW _) ?_
  rw [hq]
  refine V_astore_n (lv' := [(3, .null), (0, .ref (adr 0)), (1, .int y), (2, .int x)]) d_PF_size_5 (isr_null) (by decide) rfl ?_
  refine V_aload_n d_PF_size_6 rfl (isr_null) ?_
  refine V_ifnonnull 12 (isr_null) d_PF_size_7 (by decide) (fun a7 h7 => ?_) (fun h7 => ?_)
  · cases h7
  · refine V_iconst (v := 0) d_PF_size_10 (by decide) ?_
    exact V_ireturn d_PF_size_11 rfl ⟨rfl, rfl⟩
set_option maxRecDepth 100000 in
set_option maxHeartbeats 4000000 in
theorem PF_size1 {l : Launch} {D : va_G} {ac : Nat → ClassId} {adr : Nat → Nat} {s : PS} {Z M : MP} (hW : PW ac adr s Z M) {y : Int32} {q : Nat} (hq : boV s y = some q) {v w h d it ne : Int32} {fi : Value} (hB : Z q = some (.inr (1, bxv v w h d fi it ne))) (x : Int32) : Ct l D (tyl ac) t_PF_size 0 0 [.ref (adr 0), .int y, .int x] M (PQ (some (.int (psz w h d x))) M) := by
  refine Ct_of (by decide) (Nat.le_of_ble_eq_true rfl) ?_
  refine V_aload_n d_PF_size_0 rfl (isr_ref _) ?_
  refine V_iload_n d_PF_size_1 rfl ?_
  refine V_rd (As := [.int (y)]) (rest := []) (T := T_PF) (N := 12) (PW_c (p := 0) hW (by omega) (fun _ => rfl)) rfl d_PF_size_2 c_PF_105 ⟨by decide, by decide⟩ rfl rfl (Nat.le_of_ble_eq_true rfl) (PF_boxOf hW _) ?_
  rw [hq]
  refine V_astore_n (lv' := [(3, .ref q), (0, .ref (adr 0)), (1, .int y), (2, .int x)]) d_PF_size_5 (isr_ref _) (by decide) rfl ?_
  refine V_aload_n d_PF_size_6 rfl (isr_ref _) ?_
  refine V_ifnonnull 12 (isr_ref _) d_PF_size_7 (by decide) (fun a7 h7 => ?_) (fun h7 => ?_)
  · refine V_iload_n d_PF_size_12 rfl ?_
    by_cases c0 : x = 0
    · refine V_eqi c0 ?_
      refine V_tabIn 40 d_PF_size_13 (by decide) (by decide) rfl (by decide) ?_
      refine V_aload_n d_PF_size_40 rfl (isr_ref _) ?_
      refine V_getf d_PF_size_41 f_PF_110 (PW_z hW hB) rfl ?_
      exact V_ireturn d_PF_size_44 rfl ⟨by rw [psz, if_pos c0], rfl⟩
    by_cases c1 : x = 1
    · refine V_eqi c1 ?_
      refine V_tabIn 45 d_PF_size_13 (by decide) (by decide) rfl (by decide) ?_
      refine V_aload_n d_PF_size_45 rfl (isr_ref _) ?_
      refine V_getf d_PF_size_46 f_PF_113 (PW_z hW hB) rfl ?_
      exact V_ireturn d_PF_size_49 rfl ⟨by rw [psz, if_neg c0, if_pos c1], rfl⟩
    by_cases c2 : x = 2
    · refine V_eqi c2 ?_
      refine V_tabIn 50 d_PF_size_13 (by decide) (by decide) rfl (by decide) ?_
      refine V_aload_n d_PF_size_50 rfl (isr_ref _) ?_
      refine V_getf d_PF_size_51 f_PF_116 (PW_z hW hB) rfl ?_
      exact V_ireturn d_PF_size_54 rfl ⟨by rw [psz, if_neg c0, if_neg c1, if_pos c2], rfl⟩
    have t0 := ti_ne c0
    have t1 := ti_ne c1
    have t2 := ti_ne c2
    simp only [show (0 : Int32).toInt = 0 from rfl, show (1 : Int32).toInt = 1 from rfl, show (2 : Int32).toInt = 2 from rfl] at t0 t1 t2
    refine V_tabOut 55 d_PF_size_13 (by omega) (by decide) ?_
    refine V_iconst (v := 0) d_PF_size_55 (by decide) ?_
    exact V_ireturn d_PF_size_56 rfl ⟨by rw [psz, if_neg c0, if_neg c1, if_neg c2], rfl⟩
  · cases h7
theorem ifn_ex {x : Int32} (h : ¬ ifn x = 0) : ∃ m, m < 32 ∧ x = nI m := by
  unfold ifn at h
  by_cases g : ¬ x < 0 ∧ ¬ 32 ≤ x
  · exact nI_n (n := 32) (by decide) g.1 (Int32.not_le.mp g.2)
  · rw [if_neg g] at h; exact absurd rfl h
abbrev foc (x y z : Int32) : Prop := ¬ ifn x = 0 ∧ ¬ y < 0 ∧ ¬ z < 0
def foS (s : PS) (x y z : Int32) : PS := if foc x y z then uA (uA s 0 (upd (s.2.2.1 0) x.toNatClampNeg y)) 1 (upd (s.2.2.1 1) x.toNatClampNeg z) else s
theorem Fon_keepW {l : Launch} {D : va_G} {ac : Nat → ClassId} {adr : Nat → Nat} {s : PS} {Z M : MP} (hW : PW ac adr s Z M) {m : Nat} (hm : m < 32) (x y : Int32) : Ct l D (tyl ac) t_Fon_keep 0 0 [.ref (adr 3), .int (nI m), .int x, .int y] M (fun r M' => r = none ∧ PW ac adr (uA (uA s 0 (upd (s.2.2.1 0) m x)) 1 (upd (s.2.2.1 1) m y)) Z M') := by
  obtain ⟨ra, N, h0, hR, hZ, hk, rfl⟩ := hW
  refine Ct_mono (Fon_keep h0 (p := 3) (List.mem_range.mpr (by omega)) (ps := 7) (pd := 8) (List.mem_range.mpr (by omega)) (List.mem_range.mpr (by omega)) rfl rfl rfl (by decide) (by decide) hm x y) (fun r M' hq => ?_)
  obtain ⟨rfl, rfl⟩ := hq
  refine ⟨rfl, ra, N, h0, hR, hZ, hk, ?_⟩
  rw [← pC_fd, ← pC_fs]
set_option maxRecDepth 100000 in
set_option maxHeartbeats 4000000 in
theorem PF_font {l : Launch} {D : va_G} {ac : Nat → ClassId} {adr : Nat → Nat} {s : PS} {Z M : MP} (hW : PW ac adr s Z M) (x y z : Int32) : Ct l D (tyl ac) t_PF_font 0 0 [.ref (adr 0), .int x, .int y, .int z] M (fun r M' => r = some (.int (if foc x y z then 1 else 0)) ∧ PW ac adr (foS s x y z) Z M') := by
  refine Ct_of (by decide) (Nat.le_of_ble_eq_true rfl) ?_
  refine V_iload_n d_PF_font_0 rfl ?_
  refine VS_ci1 d_PF_font_1 c_PF_36 (PF_isFont _) ⟨by decide, by decide⟩ (Nat.le_of_ble_eq_true rfl) ?_
  refine V_if_eq 15 d_PF_font_4 (by decide) (fun h4 => ?_) (fun h4 => ?_)
  · refine V_iconst (v := 0) d_PF_font_15 (by decide) ?_
    exact V_zreturn d_PF_font_16 rfl nz0 ⟨by rw [if_neg (fun c => c.1 h4)], by rw [foS, if_neg (fun c => c.1 h4)]; exact hW⟩
  · refine V_iload_n d_PF_font_7 rfl ?_
    refine V_if_lt 15 d_PF_font_8 (by decide) (fun h8 => ?_) (fun h8 => ?_)
    · refine V_iconst (v := 0) d_PF_font_15 (by decide) ?_
      exact V_zreturn d_PF_font_16 rfl nz0 ⟨by rw [if_neg (fun c => c.2.1 h8)], by rw [foS, if_neg (fun c => c.2.1 h8)]; exact hW⟩
    · refine V_iload_n d_PF_font_11 rfl ?_
      refine V_if_ge 17 d_PF_font_12 (by decide) (fun h12 => ?_) (fun h12 => ?_)
      · have hc : foc x y z := ⟨h4, h8, Int32.not_lt.mpr h12⟩
        obtain ⟨m, hm, rfl⟩ := ifn_ex h4
        refine V_aload_n d_PF_font_17 rfl (isr_ref _) ?_
        refine V_getf d_PF_font_18 f_PF_31 (PW_c hW (by omega) (fun _ => rfl)) rfl ?_
        refine V_iload_n d_PF_font_21 rfl ?_
        refine V_iload_n d_PF_font_22 rfl ?_
        refine V_iload_n d_PF_font_23 rfl ?_
        refine V_c0 (As := [.int (nI m), .int y, .int z]) (rest := []) (T := T_Fon) (N := 3) (PW_c (p := 3) hW (by omega) (fun _ => rfl)) rfl d_PF_font_24 c_PF_40 ⟨by decide, by decide⟩ rfl rfl (Nat.le_of_ble_eq_true rfl) (Fon_keepW hW hm _ _) (fun r M1 hq9 => ?_)
        obtain ⟨rfl, hW⟩ := hq9
        refine V_iconst (v := 1) d_PF_font_27 (by decide) ?_
        exact V_zreturn d_PF_font_28 rfl nz1 ⟨by rw [if_pos hc], by rw [foS, if_pos hc, nI_clamp (by omega)]; exact hW⟩
      · refine V_iconst (v := 0) d_PF_font_15 (by decide) ?_
        exact V_zreturn d_PF_font_16 rfl nz0 ⟨by rw [if_neg (fun c => c.2.2 (Int32.not_le.mp h12))], by rw [foS, if_neg (fun c => c.2.2 (Int32.not_le.mp h12))]; exact hW⟩
set_option maxRecDepth 100000 in
set_option maxHeartbeats 4000000 in
theorem PF_writeUnits {l : Launch} {D : va_G} {ac : Nat → ClassId} {adr : Nat → Nat} {s : PS} {Z M : MP} {jE : Nat} (hW : PW ac adr s Z M) (hE : FE (xF s) nums jE) : Ct l D (tyl ac) t_PF_writeUnits (bk jE (xF s) 0) (bs jE (xF s) 0) [.ref (adr 0)] M (fun r M' => r = none ∧ PW ac adr (uF s (fwr (xF s) nums)) Z M') := by
  refine Ct_of (by decide) (Nat.le_of_ble_eq_true rfl) ?_
  unfold nums at hE
  refine V_aload_n d_PF_writeUnits_0 rfl (isr_ref _) ?_
  refine V_getf d_PF_writeUnits_1 f_PF_26 (PW_c hW (by omega) (fun _ => rfl)) rfl ?_
  refine V_ldc d_PF_writeUnits_4 k_PF_208 ?_
  refine V_iconst (v := nI 4) d_PF_writeUnits_6 (by decide) ?_
  refine VW_add (t := t_PF_writeUnits) hW [(473628672, 4), (1000, 4)] hE (by decide) d_PF_writeUnits_7 c_PF_158 ⟨by decide, by decide⟩ (Nat.le_of_ble_eq_true rfl) (fun M1 hW => ?_)
  replace hE := FE_t hE
  refine V_aload_n d_PF_writeUnits_10 rfl (isr_ref _) ?_
  refine V_getf d_PF_writeUnits_11 f_PF_26 (PW_c hW (by omega) (fun _ => rfl)) rfl ?_
  refine V_ldc d_PF_writeUnits_14 k_PF_209 ?_
  refine V_iconst (v := nI 4) d_PF_writeUnits_16 (by decide) ?_
  refine VW_add (t := t_PF_writeUnits) hW [(1000, 4)] hE (by decide) d_PF_writeUnits_17 c_PF_158 ⟨by decide, by decide⟩ (Nat.le_of_ble_eq_true rfl) (fun M1 hW => ?_)
  replace hE := FE_t hE
  refine V_aload_n d_PF_writeUnits_20 rfl (isr_ref _) ?_
  refine V_getf d_PF_writeUnits_21 f_PF_26 (PW_c hW (by omega) (fun _ => rfl)) rfl ?_
  refine V_sipush (v := 1000) d_PF_writeUnits_24 (by decide) ?_
  refine V_iconst (v := nI 4) d_PF_writeUnits_27 (by decide) ?_
  refine VW_add (t := t_PF_writeUnits) hW [] hE (by decide) d_PF_writeUnits_28 c_PF_158 ⟨by decide, by decide⟩ (Nat.le_of_ble_eq_true rfl) (fun M1 hW => ?_)
  replace hE := FE_t hE
  exact V_return d_PF_writeUnits_31 rfl ⟨rfl, hW⟩
def bgL (n : Nat) : List (Int32 × Nat) := if n = 0 then begl else []
theorem begl_31 (F : FI) : fwr F begl = fwr (fadd (fadd F 247 1) 2 1) (nums ++ [(0, 1)]) := rfl
theorem fwr_1 (F : FI) (L : List (Int32 × Nat)) (v : Int32) (c : Nat) : fwr F (L ++ [(v, c)]) = fadd (fwr F L) v c := by rw [fwr_app]; rfl
theorem FE_begl {F : FI} {jE : Nat} (h : FE F begl jE) : FE (fadd (fadd F 247 1) 2 1) (nums ++ [(0, 1)]) jE := h
theorem FE_bg0 {F : FI} {jE : Nat} (h : FE F begl jE) : FE F ((247, 1) :: (2, 1) :: (nums ++ [(0, 1)])) jE := h
set_option maxRecDepth 100000 in
set_option maxHeartbeats 200000 in
theorem wBg_31 {l : Launch} {D : va_G} {ac : Nat → ClassId} {adr : Nat → Nat} {s : PS} {Z M : MP} {jE : Nat} (hW : PW ac adr s Z M) {x y : Nat} (hE : FE (xF s) (nums ++ [(0, 1)]) jE) {Q : Option Value → MP → Prop} (hQ : ∀ M', PW ac adr (uF s (fwr (xF s) (nums ++ [(0, 1)]))) Z M' → Q none M') : V l D (tyl ac) t_PF_writeBeginning (bk jE (xF s) x) (bs jE (xF s) y) 31 [(0, .ref (adr 0))] [] M Q := by
  refine V_aload_n d_PF_writeBeginning_31 rfl (isr_ref _) ?_
  refine VW_call (F := xF s) (L1 := nums) (As := []) (rest := []) (T' := T_PF) (Nn := 12) [(0, 1)] hE (PW_c (p := 0) hW (by omega) (fun _ => rfl)) rfl d_PF_writeBeginning_32 c_PF_162 ⟨by decide, by decide⟩ rfl rfl (Nat.le_of_ble_eq_true rfl) (fun hE => PF_writeUnits hW hE) (fun r M1 hq9 hE => ?_)
  obtain ⟨rfl, hW⟩ := hq9
  refine V_aload_n d_PF_writeBeginning_35 rfl (isr_ref _) ?_
  refine V_getf d_PF_writeBeginning_36 f_PF_26 (PW_c hW (by omega) (fun _ => rfl)) rfl ?_
  refine V_iconst (v := 0) d_PF_writeBeginning_39 (by decide) ?_
  refine V_iconst (v := nI 1) d_PF_writeBeginning_40 (by decide) ?_
  refine VW_add (t := t_PF_writeBeginning) hW [] hE (by decide) d_PF_writeBeginning_41 c_PF_158 ⟨by decide, by decide⟩ (Nat.le_of_ble_eq_true rfl) (fun M1 hW => ?_)
  replace hE := FE_t hE
  exact V_return d_PF_writeBeginning_44 rfl (hQ _ (by rw [fwr_1]; exact hW))
set_option maxRecDepth 100000 in
set_option maxHeartbeats 200000 in
theorem PF_writeBeginning {l : Launch} {D : va_G} {ac : Nat → ClassId} {adr : Nat → Nat} {s : PS} {Z M : MP} {jE : Nat} (hW : PW ac adr s Z M) (hE : FE (xF s) (bgL (xF s).1) jE) : Ct l D (tyl ac) t_PF_writeBeginning (bk jE (xF s) 0) (bs jE (xF s) 0) [.ref (adr 0)] M (fun r M' => r = none ∧ PW ac adr (uF s (fwr (xF s) (bgL (xF s).1))) Z M') := by
  refine Ct_of (by decide) (Nat.le_of_ble_eq_true rfl) ?_
  obtain ⟨ra, hb⟩ := PW_len hW
  have g2 := p2_11 (PW_ok hW).2.2
  have g3 := (PW_ok hW).2.1
  refine V_aload_n d_PF_writeBeginning_0 rfl (isr_ref _) ?_
  refine V_getf d_PF_writeBeginning_1 f_PF_26 (PW_c hW (by omega) (fun _ => rfl)) rfl ?_
  refine V_getfN d_PF_writeBeginning_4 f_PF_136 (hb) rfl ?_
  refine V_if_le 11 d_PF_writeBeginning_7 (by decide) (fun h7 => ?_) (fun h7 => ?_)
  · have hn0 : (xF s).1 = 0 := by
      rcases Nat.eq_zero_or_pos (xF s).1 with z | z
      · exact z
      · exact absurd (show nI (xF s).1 ≤ nI 0 from h7) (nI_ge z (by omega))
    rw [bgL, if_pos hn0] at hE ⊢
    rw [begl_31]
    replace hE := FE_bg0 hE
    refine V_aload_n d_PF_writeBeginning_11 rfl (isr_ref _) ?_
    refine V_getf d_PF_writeBeginning_12 f_PF_26 (PW_c hW (by omega) (fun _ => rfl)) rfl ?_
    refine V_sipush (v := 247) d_PF_writeBeginning_15 (by decide) ?_
    refine V_iconst (v := nI 1) d_PF_writeBeginning_18 (by decide) ?_
    refine VW_add (t := t_PF_writeBeginning) hW ((2, 1) :: (nums ++ [(0, 1)])) hE (by decide) d_PF_writeBeginning_19 c_PF_158 ⟨by decide, by decide⟩ (Nat.le_of_ble_eq_true rfl) (fun M1 hW => ?_)
    replace hE := FE_t hE
    refine V_aload_n d_PF_writeBeginning_22 rfl (isr_ref _) ?_
    refine V_getf d_PF_writeBeginning_23 f_PF_26 (PW_c hW (by omega) (fun _ => rfl)) rfl ?_
    refine V_iconst (v := 2) d_PF_writeBeginning_26 (by decide) ?_
    refine V_iconst (v := nI 1) d_PF_writeBeginning_27 (by decide) ?_
    refine VW_add (t := t_PF_writeBeginning) hW (nums ++ [(0, 1)]) hE (by decide) d_PF_writeBeginning_28 c_PF_158 ⟨by decide, by decide⟩ (Nat.le_of_ble_eq_true rfl) (fun M1 hW => ?_)
    replace hE := FE_t hE
    exact wBg_31 (s := uF s (fadd (fadd (xF s) 247 1) 2 1)) hW hE (fun M2 h2 => ⟨rfl, h2⟩)
  · have hn0 : ¬ (xF s).1 = 0 := fun z => h7 (by rw [z]; decide)
    exact V_return d_PF_writeBeginning_10 rfl ⟨rfl, by rw [bgL, if_neg hn0]; exact hW⟩
